/-! the pad: the reference's reading -/
section PD3
variable {C : Nat → Nat} {n : Nat}
/-- the reference's pad holds these characters -/
def RP (μ : Hp) (C : Nat → Nat) (n : Nat) : Prop := μ 0 8 = nI n ∧ n ≤ 60 ∧ (∀ i, i < n → μ 5 i = nI (C i) ∧ 33 ≤ C i ∧ C i ≤ 126) ∧ ∀ i, n ≤ i → C i = 0
theorem RP.lt {μ : Hp} (h : RP μ C n) (i : Nat) : C i < 127 := by
  by_cases q : i < n
  · have := (h.2.2.1 i q).2.2
    omega
  · rw [h.2.2.2 i (by omega)]
    omega
theorem RP.of {μ μ' : Hp} (h : RP μ C n) (h1 : μ' 0 8 = μ 0 8) (h2 : μ' 5 = μ 5) : RP μ' C n := by
  refine ⟨h1.trans h.1, h.2.1, fun i hi => ?_, h.2.2.2⟩
  rw [h2]
  exact h.2.2.1 i hi
/-- what reading changes: the spot, and what was read in these places -/
def RF (lo hi : Nat) (μ μ' : Hp) : Prop := (∀ j, j ≠ 11 → μ' 0 j = μ 0 j) ∧ (∀ c, c ≠ 0 → c ≠ 7 → μ' c = μ c) ∧ ∀ i, ¬ (lo ≤ i ∧ i < hi) → μ' 7 i = μ 7 i
theorem RF.rf {lo hi : Nat} {μ : Hp} : RF lo hi μ μ := ⟨fun _ _ => rfl, fun _ _ _ => rfl, fun _ _ => rfl⟩
theorem RF.trans {lo hi : Nat} {μ μ' μ'' : Hp} (h : RF lo hi μ μ') (h2 : RF lo hi μ' μ'') : RF lo hi μ μ'' := ⟨fun j hj => by rw [h2.1 j hj, h.1 j hj], fun c a b => by rw [h2.2.1 c a b, h.2.1 c a b], fun i hi => by rw [h2.2.2 i hi, h.2.2 i hi]⟩
theorem RF.mono {lo hi lo' hi' : Nat} {μ μ' : Hp} (h : RF lo hi μ μ') (h1 : lo' ≤ lo) (h2 : hi ≤ hi') : RF lo' hi' μ μ' := ⟨h.1, h.2.1, fun i hi => h.2.2 i (by omega)⟩
theorem RF.spot {lo hi : Nat} {μ μ' : Hp} (h : RF lo hi μ μ') (x : Int32) : RF lo hi μ (lm_u μ' 0 11 x) := ⟨fun j hj => by rw [lu_ne _ _ hj, h.1 j hj], fun c a b => by rw [lu_c _ _ _ a, h.2.1 c a b], fun i hi => by rw [lu_c _ _ _ (by omega), h.2.2 i hi]⟩
theorem RF.wr {lo hi : Nat} {μ μ' : Hp} (h : RF lo hi μ μ') {i : Nat} (hi' : lo ≤ i ∧ i < hi) (x : Int32) : RF lo hi μ (lm_u μ' 7 i x) := ⟨fun j hj => by rw [lu_c _ _ _ (by omega), h.1 j hj], fun c a b => by rw [lu_c _ _ _ b, h.2.1 c a b], fun j hj => by
  have : j ≠ i := fun z => hj (by rw [z]; exact hi')
  rw [lu_ne _ _ this, h.2.2 j hj]⟩
theorem RF.P {lo hi : Nat} {μ μ' : Hp} (h : RF lo hi μ μ') (hP : RP μ C n) : RP μ' C n := hP.of (h.1 8 (by omega)) (h.2.1 5 (by omega) (by omega))
theorem RF.k {lo hi k : Nat} {μ μ' : Hp} (h : RF lo hi μ μ') (hk : μ 0 12 = nI k) : μ' 0 12 = nI k := (h.1 12 (by omega)).trans hk
theorem o_isAt {μ : Hp} (hP : RP μ C n) {a lo hi : Nat} (h11 : μ 0 11 = nI a) (ha : a ≤ 100) (hlo : 1 ≤ lo) (hb : lo < 127 ∧ hi < 127) : F_X7_isAt μ (nI lo) (nI hi) = some (if lo ≤ C a ∧ C a ≤ hi then 1 else 0) := by
  have hx := hP.lt a
  obtain ⟨h1, h2, h3, h4⟩ := hP
  unfold F_X7_isAt
  rw [lm_br, h1, h11]
  by_cases q : n ≤ a
  · have := h4 a q
    rw [if_pos (nI_le q (by omega)), if_neg (by omega)]
  · rw [if_neg (nI_ge (by omega) (by omega)), ev_gi (by omega) (by omega), ev_cl (by omega), (h3 a (by omega)).1, o_in _ _ _ (by omega) (by omega) (by omega), lm_bd_some, lm_br]
    by_cases z : lo ≤ C a ∧ C a ≤ hi
    · rw [if_pos z, if_pos z, if_neg (by decide)]
    · rw [if_neg z, if_neg z, if_pos (by decide)]
theorem o_sign {μ : Hp} (hP : RP μ C n) {a s : Nat} (h11 : μ 0 11 = nI a) (ha : a ≤ 100) (hs : 1 ≤ s ∧ s < 127) : F_X7_sign μ (nI s) = some (if C a = s then 1 else 0, lm_u μ 0 11 (nI (if C a = s then a + 1 else a))) := by
  unfold F_X7_sign
  rw [o_isAt hP h11 ha hs.1 ⟨hs.2, hs.2⟩, lm_bd_some, lm_br]
  by_cases q : C a = s
  · rw [if_pos (show s ≤ C a ∧ C a ≤ s by omega), if_neg (by decide), lm_lt_eq, lm_gd, if_pos (Or.inr rfl), if_pos q, if_pos q, h11, nI_1]
  · rw [if_neg (show ¬ (s ≤ C a ∧ C a ≤ s) by omega), if_pos (by decide), lm_lt_eq, lm_gd, if_pos (Or.inl rfl), if_neg q, if_neg q, h11, Int32.add_zero]
theorem o_wr {σ : Hp} {k to : Nat} (h12 : σ 0 12 = nI k) (hto : 4 * k + to < 124) (x : Int32) : (lm_gi (((4 : Int32) * (σ 0 12)) + nI to) 124 (lm_lt (lm_u σ 7 (((((4 : Int32) * (σ 0 12)) + nI to)).toNatClampNeg) x) fun σ7 => some ((1 : Int32), σ7))) = some (1, lm_u σ 7 (4 * k + to) x) := by
  rw [h12, ev_k4, ev_mul, ev_add, ev_gi hto (by omega), ev_cl (by omega), lm_lt_eq]
theorem o_num {μ : Hp} (hP : RP μ C n) {a l m to k : Nat} (h11 : μ 0 11 = nI a) (h12 : μ 0 12 = nI k) (ha : a ≤ 90) (hl : l < 2) (hm : 9 ≤ m ∧ m ≤ 99) (hto : 4 * k + to < 124) : ∃ μ', F_X7_number μ (nI to) (nI l) (nI m) = some (if nOk C l a then 1 else 0, μ') ∧ μ' 0 11 = nI (if nOk C l a then nE C m a else a) ∧ (nOk C l a → μ' 7 (4 * k + to) = nI (nV C m a)) ∧ RF (4 * k + to) (4 * k + to + 1) μ μ' := by
  have hx := hP.lt a
  have hy := hP.lt (a + 1)
  have hz := hP.lt (a + 2)
  have hP' := hP
  obtain ⟨h1, h2, h3, h4⟩ := hP'
  unfold F_X7_number
  rw [ev_k48, ev_k57, ev_add, o_isAt hP h11 (by omega) (by omega) (by omega), lm_bd_some, lm_br]
  by_cases ok : nOk C l a
  · have an : a < n := by
      by_cases z : a < n
      · exact z
      · have := h4 a (by omega)
        have := ok.1
        omega
    have ok1 := ok.1
    have ok2 := ok.2
    rw [if_pos ok, if_pos ok, if_pos (by decide), h11, ev_gi (by omega) (by omega), ev_cl (by omega), (h3 a an).1, nI_1, pk_sub (by omega), lm_lt_eq, lm_lt_eq]
    obtain ⟨σ5, hσ⟩ : ∃ σ5, σ5 = lm_u μ 0 11 (nI (a + 1)) := ⟨_, rfl⟩
    rw [← hσ]
    have r5 : RF (4 * k + to) (4 * k + to + 1) μ σ5 := by rw [hσ]; exact RF.rf.spot _
    have P5 := r5.P hP
    have k5 := r5.k h12
    have s5 : σ5 0 11 = nI (a + 1) := by rw [hσ, lu_same]
    have e1 : ∀ x, nE C m a = a + 1 → nV C m a = x → ∃ μ', some ((1 : Int32), lm_u σ5 7 (4 * k + to) (nI x)) = some (1, μ') ∧ μ' 0 11 = nI (nE C m a) ∧ (nOk C l a → μ' 7 (4 * k + to) = nI (nV C m a)) ∧ RF (4 * k + to) (4 * k + to + 1) μ μ' := by
      intro x eE eV
      refine ⟨_, rfl, ?_, fun _ => ?_, r5.wr (by omega) _⟩
      · rw [lu_c _ _ _ (by omega), s5, eE]
      · rw [lu_same, eV]
    rw [show (1000 : Nat) = 998 + 1 + 1 from rfl, F_X7_number_L39, lm_br]
    by_cases q3 : C a = 48
    · have nt : ¬ nTwo C m a := fun z => z.1 q3
      rw [if_pos (show nI (C a - 48) ≤ 0 by rw [q3]; decide), o_wr k5 hto]
      exact e1 _ (by unfold nE; rw [if_neg nt]) (by unfold nV; rw [if_neg nt])
    · rw [if_neg (nI_nle (by omega) (by omega)), ev_k48, ev_k57, o_isAt P5 s5 (by omega) (by omega) (by omega), lm_bd_some, lm_br]
      by_cases q4 : 48 ≤ C (a + 1) ∧ C (a + 1) ≤ 57
      · have an1 : a + 1 < n := by
          by_cases z : a + 1 < n
          · exact z
          · have := h4 (a + 1) (by omega)
            omega
        have p5 : σ5 5 (a + 1) = nI (C (a + 1)) := (P5.2.2.1 (a + 1) an1).1
        rw [if_pos q4, if_neg (by decide), s5, ev_gi (by omega) (by omega), ev_cl (by omega), p5, ev_k10, ev_mul, ev_add, pk_sub (by omega), lm_br]
        by_cases q6 : 10 * (C a - 48) + (C (a + 1) - 48) ≤ m
        · have tw : nTwo C m a := ⟨q3, q4.1, q4.2, q6⟩
          rw [if_neg (nI_nlt (by omega) (by omega)), ev_gi (by omega) (by omega), lm_lt_eq, lm_lt_eq, nI_1]
          obtain ⟨σ6, hσ6⟩ : ∃ σ6, σ6 = lm_u σ5 0 11 (nI (a + 1 + 1)) := ⟨_, rfl⟩
          rw [← hσ6]
          have r6 : RF (4 * k + to) (4 * k + to + 1) μ σ6 := by rw [hσ6]; exact r5.spot _
          have P6 := r6.P hP
          have k6 := r6.k h12
          have s6 : σ6 0 11 = nI (a + 2) := by rw [hσ6, lu_same]
          have e2 : ∃ μ', some ((1 : Int32), lm_u σ6 7 (4 * k + to) (nI (10 * (C a - 48) + C (a + 1) - 48))) = some (1, μ') ∧ μ' 0 11 = nI (nE C m a) ∧ (nOk C l a → μ' 7 (4 * k + to) = nI (nV C m a)) ∧ RF (4 * k + to) (4 * k + to + 1) μ μ' := by
            refine ⟨_, rfl, ?_, fun _ => ?_, r6.wr (by omega) _⟩
            · rw [lu_c _ _ _ (by omega), s6]
              unfold nE
              rw [if_pos tw]
            · rw [lu_same]
              unfold nV
              rw [if_pos tw, show 10 * (C a - 48) + C (a + 1) - 48 = 10 * (C a - 48) + (C (a + 1) - 48) by omega]
          rw [F_X7_number_L39, lm_br, if_neg (nI_nle (by omega) (by omega)), ev_k48, ev_k57, o_isAt P6 s6 (by omega) (by omega) (by omega), lm_bd_some, lm_br]
          by_cases q7 : 48 ≤ C (a + 2) ∧ C (a + 2) ≤ 57
          · have an2 : a + 2 < n := by
              by_cases z : a + 2 < n
              · exact z
              · have := h4 (a + 2) (by omega)
                omega
            have p6 : σ6 5 (a + 2) = nI (C (a + 2)) := (P6.2.2.1 (a + 2) an2).1
            rw [if_pos q7, if_neg (by decide), s6, ev_gi (by omega) (by omega), ev_cl (by omega), p6, ev_k10, ev_mul, ev_add, pk_sub (by omega), lm_br, if_pos (nI_lt (by omega) (by omega)), o_wr k6 hto]
            exact e2
          · rw [if_neg q7, if_pos (by decide), o_wr k6 hto]
            exact e2
        · have nt : ¬ nTwo C m a := fun z => q6 z.2.2.2
          rw [if_pos (nI_lt (by omega) (by omega)), o_wr k5 hto]
          exact e1 _ (by unfold nE; rw [if_neg nt]) (by unfold nV; rw [if_neg nt])
      · have nt : ¬ nTwo C m a := fun z => q4 ⟨z.2.1, z.2.2.1⟩
        rw [if_neg q4, if_pos (by decide), o_wr k5 hto]
        exact e1 _ (by unfold nE; rw [if_neg nt]) (by unfold nV; rw [if_neg nt])
  · rw [if_neg ok, if_neg ok, if_neg (by decide)]
    exact ⟨μ, rfl, h11, fun z => absurd z ok, RF.rf⟩
theorem o_rdRow {μ : Hp} (hP : RP μ C n) {a k : Nat} (h11 : μ 0 11 = nI a) (h12 : μ 0 12 = nI k) (ha : a ≤ 80) (hk : k ≤ 30) : ∃ μ', F_X7_readsRow μ = some (if rOk C a then 1 else 0, μ') ∧ μ' 0 11 = nI (rE C a) ∧ (rOk C a → μ' 7 (4 * k + 1) = nI (rK C a) ∧ μ' 7 (4 * k + 2) = nI (rV C a)) ∧ RF (4 * k + 1) (4 * k + 3) μ μ' := by
  obtain ⟨μ1, k1, k2, k3, k4⟩ := o_num hP (l := 0) (m := 9) (to := 1) h11 h12 (by omega) (by omega) (by omega) (by omega)
  have k1' : F_X7_number μ 1 0 9 = _ := k1
  have r1 : RF (4 * k + 1) (4 * k + 3) μ μ1 := k4.mono (by omega) (by omega)
  have eb := nE_b C 9 a
  unfold F_X7_readsRow
  rw [k1', lm_b2_some, lm_br]
  by_cases ok1 : nOk C 0 a
  · rw [if_pos ok1] at k2
    rw [if_pos ok1, if_neg (by decide), show (58 : Int32) = nI 58 from rfl, o_sign (r1.P hP) k2 (by omega) (by omega), lm_b2_some, lm_br]
    by_cases ok2 : C (nE C 9 a) = 58
    · rw [if_pos ok2, if_pos ok2, if_neg (by decide)]
      have r2 : RF (4 * k + 1) (4 * k + 3) μ (lm_u μ1 0 11 (nI (nE C 9 a + 1))) := r1.spot _
      obtain ⟨μ3, m1, m2, m3, m4⟩ := o_num (r2.P hP) (l := 0) (m := 99) (to := 2) (lu_same _ _ _ _) (r2.k h12) (by omega) (by omega) (by omega) (by omega)
      have m1' : F_X7_number (lm_u μ1 0 11 (nI (nE C 9 a + 1))) 2 0 99 = _ := m1
      have r3 : RF (4 * k + 1) (4 * k + 3) μ μ3 := r2.trans (m4.mono (by omega) (by omega))
      rw [m1', lm_b2_some, lm_br]
      by_cases ok3 : nOk C 0 (nE C 9 a + 1)
      · have okr : rOk C a := ⟨ok1, ok2, ok3⟩
        rw [if_pos ok3] at m2
        rw [if_pos ok3, if_neg (by decide), if_pos okr]
        refine ⟨μ3, rfl, ?_, fun _ => ⟨?_, m3 ok3⟩, r3⟩
        · rw [m2]
          unfold rE
          rw [if_pos ok1, if_pos ok2, if_pos ok3]
        · rw [m4.2.2 _ (by omega), lu_c _ _ _ (by omega), k3 ok1]
          rfl
      · have nok : ¬ rOk C a := fun z => ok3 z.2.2
        rw [if_neg ok3] at m2
        rw [if_neg ok3, if_pos (by decide), if_neg nok]
        refine ⟨μ3, rfl, ?_, fun z => absurd z nok, r3⟩
        rw [m2]
        unfold rE
        rw [if_pos ok1, if_pos ok2, if_neg ok3]
    · have nok : ¬ rOk C a := fun z => ok2 z.2.1
      rw [if_neg ok2, if_neg ok2, if_pos (by decide), if_neg nok]
      refine ⟨_, rfl, ?_, fun z => absurd z nok, r1.spot _⟩
      rw [lu_same]
      unfold rE
      rw [if_pos ok1, if_neg ok2]
  · have nok : ¬ rOk C a := fun z => ok1 z.1
    rw [if_neg ok1] at k2
    rw [if_neg ok1, if_pos (by decide), if_neg nok]
    refine ⟨_, rfl, ?_, fun z => absurd z nok, r1⟩
    rw [k2]
    unfold rE
    rw [if_neg ok1]
theorem o_rdDeed {μ : Hp} (hP : RP μ C n) {a k : Nat} (h11 : μ 0 11 = nI a) (h12 : μ 0 12 = nI k) (ha : a ≤ 60) (hk : k ≤ 30) : ∃ μ', F_X7_deed μ = some (if dOk C a then 1 else 0, μ') ∧ μ' 0 11 = nI (dE C a) ∧ (dOk C a → VA C true a (fun i => μ' 7 (4 * k + i)) ∧ μ' 7 (4 * k + 3) = nI a) ∧ RF (4 * k) (4 * k + 4) μ μ' := by
  have hx := hP.lt a
  obtain ⟨h1, h2, h3, h4⟩ := id hP
  unfold F_X7_deed
  rw [lm_br, h1, h11]
  by_cases q : n ≤ a
  · have c0 := h4 a q
    have no : ¬ dOk C a := dOk_no (by omega) (by omega) (by omega) (by omega)
    rw [if_pos (nI_le q (by omega)), h12, ev_k4, ev_mul, ev_gi (by omega) (by omega), ev_cl (by omega), lm_lt_eq, lu_c _ _ _ (by omega), h12, ev_k3, ev_mul, ev_add, ev_gi (by omega) (by omega), ev_cl (by omega), lm_lt_eq, h11, if_neg no]
    refine ⟨_, rfl, ?_, fun z => absurd z no, (RF.rf.wr (by omega) _).wr (by omega) _⟩
    rw [lu_c _ _ _ (by omega), lu_c _ _ _ (by omega), h11]
    unfold dE
    rw [if_neg (by omega), if_neg (by omega), if_neg (by omega), if_neg (by omega)]
  · rw [if_neg (nI_ge (by omega) (by omega)), ev_gi (by omega) (by omega), ev_cl (by omega), (h3 a (by omega)).1, h12, ev_k4, ev_mul, ev_gi (by omega) (by omega), ev_cl (by omega), lm_lt_eq, lu_c _ (c := 7) (d := 0) _ _ (by omega), h12, ev_k3, ev_mul, ev_add, ev_gi (by omega) (by omega), ev_cl (by omega), lm_lt_eq, h11]
    obtain ⟨σ, hσ⟩ : ∃ σ, σ = lm_u (lm_u μ 7 (4 * k) (nI (C a))) 7 (4 * k + 3) (nI a) := ⟨_, rfl⟩
    rw [← hσ]
    have r0 : RF (4 * k) (4 * k + 4) μ σ := by rw [hσ]; exact (RF.rf.wr (by omega) _).wr (by omega) _
    have s11 : σ 0 11 = nI a := by rw [hσ, lu_c _ _ _ (by omega), lu_c _ _ _ (by omega), h11]
    have v0 : σ 7 (4 * k) = nI (C a) := by rw [hσ, lu_ne _ _ (by omega), lu_same]
    have v3 : σ 7 (4 * k + 3) = nI a := by rw [hσ, lu_same]
    rw [s11, nI_1]
    obtain ⟨σ', hσ'⟩ : ∃ σ', σ' = lm_u σ 0 11 (nI (a + 1)) := ⟨_, rfl⟩
    have r1 : RF (4 * k) (4 * k + 4) μ σ' := by rw [hσ']; exact r0.spot _
    have t11 : σ' 0 11 = nI (a + 1) := by rw [hσ', lu_same]
    have w0 : σ' 7 (4 * k) = nI (C a) := by rw [hσ', lu_c _ _ _ (by omega), v0]
    have w3 : σ' 7 (4 * k + 3) = nI a := by rw [hσ', lu_c _ _ _ (by omega), v3]
    rw [← hσ', ev_k43, ev_k45, ev_k114, ev_k115]
    have num : ∀ l m, l < 2 → 9 ≤ m ∧ m ≤ 99 → C a ≠ 43 → d1 C a = nV C m (a + 1) → (dOk C a ↔ nOk C l (a + 1)) → dE C a = (if nOk C l (a + 1) then nE C m (a + 1) else a + 1) → ∃ μ', (lm_b2 (F_X7_number σ' (1 : Int32) (nI l) (nI m)) fun r19 σ18 => lm_br (r19 = 0) (some ((0 : Int32), σ18)) (some ((1 : Int32), σ18))) = some (if dOk C a then 1 else 0, μ') ∧ μ' 0 11 = nI (dE C a) ∧ (dOk C a → VA C true a (fun i => μ' 7 (4 * k + i)) ∧ μ' 7 (4 * k + 3) = nI a) ∧ RF (4 * k) (4 * k + 4) μ μ' := by
      intro l m hl hm q1 hd hok hE
      obtain ⟨μ1, k1, k2, k3, k4⟩ := o_num (r1.P hP) (l := l) (m := m) (to := 1) t11 (r1.k h12) (by omega) hl hm (by omega)
      have k1' : F_X7_number σ' 1 (nI l) (nI m) = _ := k1
      rw [k1', lm_b2_some, lm_br, hE]
      by_cases ok : nOk C l (a + 1)
      · rw [if_pos ok] at k2
        rw [if_pos ok, if_pos ok, if_pos (hok.mpr ok), if_neg (by decide)]
        refine ⟨μ1, rfl, k2, fun _ => ⟨VA_d ⟨?_, fun _ => ?_, fun z => absurd z q1⟩, ?_⟩, r1.trans (k4.mono (by omega) (by omega))⟩
        · show μ1 7 (4 * k + 0) = _
          rw [k4.2.2 _ (by omega)]
          exact w0
        · show μ1 7 (4 * k + 1) = _
          rw [k3 ok, hd]
        · rw [k4.2.2 _ (by omega), w3]
      · rw [if_neg ok] at k2
        rw [if_neg ok, if_neg ok, if_neg (fun z => ok (hok.mp z)), if_pos (by decide)]
        exact ⟨μ1, rfl, k2, fun z => absurd (hok.mp z) ok, r1.trans (k4.mono (by omega) (by omega))⟩
    have row : C a = 43 → ∃ μ', (lm_b2 (F_X7_readsRow σ') fun r19 σ18 => lm_br (r19 = 0) (some ((0 : Int32), σ18)) (some ((1 : Int32), σ18))) = some (if dOk C a then 1 else 0, μ') ∧ μ' 0 11 = nI (dE C a) ∧ (dOk C a → VA C true a (fun i => μ' 7 (4 * k + i)) ∧ μ' 7 (4 * k + 3) = nI a) ∧ RF (4 * k) (4 * k + 4) μ μ' := by
      intro q1
      obtain ⟨μ1, k1, k2, k3, k4⟩ := o_rdRow (r1.P hP) t11 (r1.k h12) (by omega) hk
      have e1 : dE C a = rE C (a + 1) := by unfold dE; rw [if_neg (by omega), if_pos q1]
      rw [k1, lm_b2_some, lm_br, e1]
      by_cases ok : rOk C (a + 1)
      · rw [if_pos ok, if_pos ((dOk_43 q1).mpr ok), if_neg (by decide)]
        refine ⟨μ1, rfl, k2, fun _ => ⟨VA_d ⟨?_, fun _ => ?_, fun _ => ?_⟩, ?_⟩, r1.trans (k4.mono (by omega) (by omega))⟩
        · show μ1 7 (4 * k + 0) = _
          rw [k4.2.2 _ (by omega)]
          exact w0
        · show μ1 7 (4 * k + 1) = _
          rw [(k3 ok).1]
          unfold d1
          rw [if_neg (by omega), if_pos q1]
        · show μ1 7 (4 * k + 2) = _
          rw [(k3 ok).2]
        · rw [k4.2.2 _ (by omega), w3]
      · rw [if_neg ok, if_neg (fun z => ok ((dOk_43 q1).mp z)), if_pos (by decide)]
        exact ⟨μ1, rfl, k2, fun z => absurd ((dOk_43 q1).mp z) ok, r1.trans (k4.mono (by omega) (by omega))⟩
    rw [lm_br]
    by_cases q4 : C a = 115
    · rw [if_pos (by rw [q4]), lm_lt_eq, lm_br, if_neg (show ¬ nI (C a) = nI 114 from fun z => by have := (e_eq hx (by omega)).mp z; omega), lm_br, if_pos (show ¬ nI (C a) = nI 43 from fun z => by have := (e_eq hx (by omega)).mp z; omega)]
      exact num 1 20 (by omega) (by omega) (by omega) (by unfold d1; rw [if_pos q4]) (dOk_115 q4) (by unfold dE; rw [if_pos q4])
    · rw [if_neg (fun z => q4 ((e_eq hx (by omega)).mp z)), lm_br]
      by_cases q1 : C a = 43
      · rw [if_pos (by rw [q1]), lm_lt_eq, lm_br, if_neg (show ¬ nI (C a) = nI 114 from fun z => by have := (e_eq hx (by omega)).mp z; omega)]
        exact row q1
      · rw [if_neg (fun z => q1 ((e_eq hx (by omega)).mp z)), lm_br]
        by_cases q2 : C a = 45
        · rw [if_pos (by rw [q2]), lm_lt_eq, lm_br, if_neg (show ¬ nI (C a) = nI 114 from fun z => by have := (e_eq hx (by omega)).mp z; omega)]
          exact num 0 19 (by omega) (by omega) q1 (by unfold d1; rw [if_neg (by omega), if_neg q1]) (dOk_45 q2) (by unfold dE; rw [if_neg (by omega), if_neg q1, if_pos q2])
        · rw [if_neg (fun z => q2 ((e_eq hx (by omega)).mp z)), lm_br]
          by_cases q3 : C a = 114
          · have ok : dOk C a := Or.inr (Or.inr (Or.inr q3))
            rw [if_pos (by rw [q3]), lm_lt_eq, if_pos ok]
            refine ⟨σ', rfl, ?_, fun _ => ⟨VA_d ⟨w0, fun z => absurd q3 z, fun z => absurd z q1⟩, w3⟩, r1⟩
            rw [t11]
            unfold dE
            rw [if_neg (by omega), if_neg q1, if_neg q2, if_pos q3]
          · have no := dOk_no q1 q2 q3 q4
            rw [if_neg (fun z => q3 ((e_eq hx (by omega)).mp z)), if_neg no]
            refine ⟨σ, rfl, ?_, fun z => absurd z no, r0⟩
            rw [s11]
            unfold dE
            rw [if_neg q4, if_neg q1, if_neg q2, if_neg q3]
end PD3
