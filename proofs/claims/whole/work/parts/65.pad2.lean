/-! the pad: the class's deeds and items -/
section PD2
variable {C : Nat → Nat} {n : Nat}
theorem e_eq {x k : Nat} (hx : x < 127) (hk : k < 127) : (nI x = nI k) ↔ x = k := nI_eq (by omega) (by omega)
theorem VA_d {f : Nat → Int32} {a : Nat} (h : f 0 = nI (C a) ∧ (C a ≠ 114 → f 1 = nI (d1 C a)) ∧ (C a = 43 → f 2 = nI (rV C (a + 1)))) : VA C true a f := by
  unfold VA
  rw [if_pos rfl]
  exact h
theorem VA_r {f : Nat → Int32} {a : Nat} (h : f 1 = nI (rK C a) ∧ f 2 = nI (rV C a)) : VA C false a f := by
  unfold VA
  rw [if_neg (by decide)]
  exact h
theorem dOk_43 {a : Nat} (q : C a = 43) : dOk C a ↔ rOk C (a + 1) := by
  unfold dOk
  constructor
  · rintro (z | z | z | z)
    · have := z.1; omega
    · exact z.2
    · have := z.1; omega
    · omega
  · exact fun z => Or.inr (Or.inl ⟨q, z⟩)
theorem dOk_45 {a : Nat} (q : C a = 45) : dOk C a ↔ nOk C 0 (a + 1) := by
  unfold dOk
  constructor
  · rintro (z | z | z | z)
    · have := z.1; omega
    · have := z.1; omega
    · exact z.2
    · omega
  · exact fun z => Or.inr (Or.inr (Or.inl ⟨q, z⟩))
theorem dOk_115 {a : Nat} (q : C a = 115) : dOk C a ↔ nOk C 1 (a + 1) := by
  unfold dOk
  constructor
  · rintro (z | z | z | z)
    · exact z.2
    · have := z.1; omega
    · have := z.1; omega
    · omega
  · exact fun z => Or.inl ⟨q, z⟩
theorem dOk_no {a : Nat} (q1 : C a ≠ 43) (q2 : C a ≠ 45) (q3 : C a ≠ 114) (q4 : C a ≠ 115) : ¬ dOk C a := by
  unfold dOk
  rintro (z | z | z | z)
  · exact q4 z.1
  · exact q1 z.1
  · exact q2 z.1
  · exact q3 z
theorem c_rdDeed {τ : Hp} (hP : CP τ C n) {a : Nat} (h3 : τ 0 3 = nI a) (h5 : τ 0 5 = nI a) (ha : a ≤ 70) : ∃ τ', F_X3_readDeed τ = some (if dOk C a then 1 else 0, τ') ∧ τ' 0 3 = nI (dE C a) ∧ (dOk C a → VA C true a (fun i => τ' 0 (6 + i))) ∧ (∀ j, j = 1 ∨ j = 2 ∨ j = 4 ∨ j = 5 → τ' 0 j = τ 0 j) ∧ ∀ c, c ≠ 0 → τ' c = τ c := by
  have hx := hP.lt a
  unfold F_X3_readDeed
  rw [h3, c_code hP (by omega), lm_bd_some, lm_lt_eq, lm_lt_eq, lu_ne _ (c := 0) (i := 6) (j := 3) _ (by omega), h3, nI_1]
  obtain ⟨σ3, hσ⟩ : ∃ σ3, σ3 = lm_u (lm_u τ 0 6 (nI (C a))) 0 3 (nI (a + 1)) := ⟨_, rfl⟩
  rw [← hσ]
  have hP3 : CP σ3 C n := by rw [hσ]; exact (hP.u (by omega) _).u (by omega) _
  have s3 : σ3 0 3 = nI (a + 1) := by rw [hσ, lu_same]
  have s6 : σ3 0 6 = nI (C a) := by rw [hσ, lu_ne _ _ (by omega), lu_same]
  have sj : ∀ j, j ≠ 3 → j ≠ 6 → σ3 0 j = τ 0 j := fun j a b => by rw [hσ, lu_ne _ _ a, lu_ne _ _ b]
  have sc : ∀ c, c ≠ 0 → σ3 c = τ c := fun c hc => by rw [hσ, lu_c _ _ _ hc, lu_c _ _ _ hc]
  rw [s6, ev_k43, ev_k45, ev_k114, ev_k115, lm_br]
  by_cases q1 : C a = 43
  · rw [if_pos (by rw [q1])]
    obtain ⟨τ1, k1, k2, k3, k4, k5⟩ := c_rdRow hP3 s3 (by omega)
    have e1 : dE C a = rE C (a + 1) := by unfold dE; rw [if_neg (by omega), if_pos q1]
    rw [k1, lm_b2_some, e1]
    refine ⟨τ1, ?_, k2, fun ok => VA_d ⟨?_, fun _ => ?_, fun _ => ?_⟩, fun j hj => ?_, fun c hc => by rw [k5 c hc, sc c hc]⟩
    · by_cases ok : rOk C (a + 1)
      · rw [if_pos ok, if_pos ((dOk_43 q1).mpr ok), lm_gd, if_pos (Or.inr rfl)]
      · rw [if_neg ok, if_neg (fun z => ok ((dOk_43 q1).mp z)), lm_gd, if_pos (Or.inl rfl)]
    · show τ1 0 6 = _
      rw [k4 6 (by omega) (by omega) (by omega), s6]
    · show τ1 0 7 = _
      rw [(k3 ((dOk_43 q1).mp ok)).1]
      unfold d1
      rw [if_neg (by omega), if_pos q1]
    · show τ1 0 8 = _
      rw [(k3 ((dOk_43 q1).mp ok)).2]
    · rw [k4 j (by omega) (by omega) (by omega), sj j (by omega) (by omega)]
  · rw [if_neg (fun z => q1 ((e_eq hx (by omega)).mp z)), lm_br]
    have num : ∀ l m, l < 2 → 9 ≤ m ∧ m ≤ 99 → d1 C a = nV C m (a + 1) → (dOk C a ↔ nOk C l (a + 1)) → dE C a = (if nOk C l (a + 1) then nE C m (a + 1) else a + 1) → ∃ τ', (lm_b2 (F_X3_readNumber σ3 (nI l) (nI m)) fun r10 σ9 => lm_lt (lm_u σ9 0 7 r10) fun σ11 => lm_br ((σ11 0 7) < 0) (some ((0 : Int32), σ11)) (some ((1 : Int32), σ11))) = some (if dOk C a then 1 else 0, τ') ∧ τ' 0 3 = nI (dE C a) ∧ (dOk C a → VA C true a (fun i => τ' 0 (6 + i))) ∧ (∀ j, j = 1 ∨ j = 2 ∨ j = 4 ∨ j = 5 → τ' 0 j = τ 0 j) ∧ ∀ c, c ≠ 0 → τ' c = τ c := by
      intro l m hl hm hd hok hE
      obtain ⟨τ1, k1, k2, k3, k4⟩ := c_num hP3 (l := l) (m := m) s3 (by omega) hl hm
      rw [k1, lm_b2_some, lm_lt_eq, lu_same, lm_br, hE]
      by_cases ok : nOk C l (a + 1)
      · have hb : nV C m (a + 1) ≤ m := nV_b hP hm.1 ok
        rw [if_pos ok] at k2
        rw [if_pos ok, if_pos ok, if_pos (hok.mpr ok), if_neg (nI_nn _ (by omega))]
        refine ⟨_, rfl, ?_, fun _ => VA_d ⟨?_, fun _ => ?_, fun z => absurd z q1⟩, fun j hj => ?_, fun c hc => ?_⟩
        · rw [lu_ne _ _ (by omega)]; exact k2
        · show lm_u τ1 0 7 _ 0 6 = _
          rw [lu_ne _ _ (by omega), k3 6 (by omega), s6]
        · show lm_u τ1 0 7 _ 0 7 = _
          rw [lu_same, hd]
        · rw [lu_ne _ _ (by omega), k3 j (by omega), sj j (by omega) (by omega)]
        · rw [lu_c _ _ _ hc, k4 c hc, sc c hc]
      · rw [if_neg ok] at k2
        rw [if_neg ok, if_neg ok, if_neg (fun z => ok (hok.mp z)), if_pos (by decide)]
        refine ⟨_, rfl, ?_, fun z => absurd (hok.mp z) ok, fun j hj => ?_, fun c hc => ?_⟩
        · rw [lu_ne _ _ (by omega)]; exact k2
        · rw [lu_ne _ _ (by omega), k3 j (by omega), sj j (by omega) (by omega)]
        · rw [lu_c _ _ _ hc, k4 c hc, sc c hc]
    by_cases q2 : C a = 45
    · rw [if_pos (by rw [q2])]
      exact num 0 19 (by omega) (by omega) (by unfold d1; rw [if_neg (by omega), if_neg q1]) (dOk_45 q2) (by unfold dE; rw [if_neg (by omega), if_neg q1, if_pos q2])
    · rw [if_neg (fun z => q2 ((e_eq hx (by omega)).mp z)), lm_br]
      by_cases q3 : C a = 114
      · have ok : dOk C a := Or.inr (Or.inr (Or.inr q3))
        rw [if_pos (by rw [q3]), if_pos ok]
        refine ⟨σ3, rfl, ?_, fun _ => VA_d ⟨?_, fun z => absurd q3 z, fun z => absurd z q1⟩, fun j hj => sj j (by omega) (by omega), sc⟩
        · rw [s3]
          unfold dE
          rw [if_neg (by omega), if_neg q1, if_neg q2, if_pos q3]
        · show σ3 0 6 = _
          exact s6
      · rw [if_neg (fun z => q3 ((e_eq hx (by omega)).mp z)), lm_br]
        by_cases q4 : C a = 115
        · rw [if_pos (by rw [q4])]
          exact num 1 20 (by omega) (by omega) (by unfold d1; rw [if_pos q4]) (dOk_115 q4) (by unfold dE; rw [if_pos q4])
        · have no := dOk_no q1 q2 q3 q4
          rw [if_neg (fun z => q4 ((e_eq hx (by omega)).mp z)), lm_lt_eq, if_neg no]
          refine ⟨_, rfl, ?_, fun z => absurd z no, fun j hj => ?_, fun c hc => ?_⟩
          · rw [lu_same, sj 5 (by omega) (by omega), h5]
            unfold dE
            rw [if_neg q4, if_neg q1, if_neg q2, if_neg q3]
          · rw [lu_ne _ _ (by omega), sj j (by omega) (by omega)]
          · rw [lu_c _ _ _ hc, sc c hc]
theorem c_item {τ : Hp} (hP : CP τ C n) (w : Bool) {a : Nat} (h2 : τ 0 2 = nI (wN w)) (h3 : τ 0 3 = nI a) (h5 : τ 0 5 = nI a) (ha : a ≤ 70) : ∃ τ', (lm_br ((τ 0 2) = 0) (lm_b2 (F_X3_readRow τ) fun r5 σ4 => lm_gd (r5 = 0 ∨ r5 = 1) (some (r5, σ4))) (lm_b2 (F_X3_readDeed τ) fun r8 σ7 => lm_gd (r8 = 0 ∨ r8 = 1) (some (r8, σ7)))) = some (if iOk C w a then 1 else 0, τ') ∧ τ' 0 3 = nI (iE C w a) ∧ (iOk C w a → VA C w a (fun i => τ' 0 (6 + i))) ∧ (∀ j, j = 1 ∨ j = 2 ∨ j = 4 ∨ j = 5 → τ' 0 j = τ 0 j) ∧ ∀ c, c ≠ 0 → τ' c = τ c := by
  rw [lm_br, h2]
  cases w with
  | false =>
    obtain ⟨τ1, k1, k2, k3, k4, k5⟩ := c_rdRow hP h3 (by omega)
    rw [if_pos (by decide), k1, lm_b2_some]
    have e1 : iOk C false a ↔ rOk C a := by unfold iOk; rw [if_neg (by decide)]
    have e2 : iE C false a = rE C a := if_neg (by decide)
    refine ⟨τ1, ?_, by rw [e2]; exact k2, fun ok => VA_r (k3 (e1.mp ok)), fun j hj => k4 j (by omega) (by omega) (by omega), k5⟩
    by_cases ok : rOk C a
    · rw [if_pos ok, if_pos (e1.mpr ok), lm_gd, if_pos (Or.inr rfl)]
    · rw [if_neg ok, if_neg (fun z => ok (e1.mp z)), lm_gd, if_pos (Or.inl rfl)]
  | true =>
    obtain ⟨τ1, k1, k2, k3, k4, k5⟩ := c_rdDeed hP h3 h5 ha
    rw [if_neg (by decide), k1, lm_b2_some]
    have e1 : iOk C true a ↔ dOk C a := by unfold iOk; rw [if_pos rfl]
    have e2 : iE C true a = dE C a := if_pos rfl
    refine ⟨τ1, ?_, by rw [e2]; exact k2, fun ok => k3 (e1.mp ok), k4, k5⟩
    by_cases ok : dOk C a
    · rw [if_pos ok, if_pos (e1.mpr ok), lm_gd, if_pos (Or.inr rfl)]
    · rw [if_neg ok, if_neg (fun z => ok (e1.mp z)), lm_gd, if_pos (Or.inl rfl)]
/-- the next item stands at a, when the reading stands at b -/
def At (C : Nat → Nat) (w : Bool) (b a : Nat) : Prop := (b = 0 ∧ a = 0) ∨ (0 < b ∧ C b = sepN w ∧ a = b + 1)
theorem c_next {τ : Hp} (hP : CP τ C n) (w : Bool) {a b : Nat} (h2 : τ 0 2 = nI (wN w)) (h3 : τ 0 3 = nI b) (hA : At C w b a) (ha : b ≤ 60) : ∃ τ', F_X3_next τ = some (if iOk C w a then 1 else 0, τ') ∧ τ' 0 3 = nI (iE C w a) ∧ τ' 0 5 = nI a ∧ (iOk C w a → VA C w a (fun i => τ' 0 (6 + i))) ∧ (∀ j, j = 1 ∨ j = 2 ∨ j = 4 → τ' 0 j = τ 0 j) ∧ ∀ c, c ≠ 0 → τ' c = τ c := by
  unfold F_X3_next
  rw [lm_br, h3]
  rcases hA with ⟨q1, q2⟩ | ⟨q1, q2, q3⟩
  · subst q1
    subst q2
    obtain ⟨τ1, k1, k2, k3, k4, k5⟩ := c_item (hP.u (i := 5) (by omega) (nI 0)) w (a := 0) (by rw [lu_ne _ _ (by omega)]; exact h2) (by rw [lu_ne _ _ (by omega)]; exact h3) (lu_same _ _ _ _) (by omega)
    rw [if_pos (by decide), lm_lt_eq]
    refine ⟨τ1, k1, k2, by rw [k4 5 (by omega), lu_same], k3, fun j hj => by rw [k4 j (by omega), lu_ne _ _ (by omega)], fun c hc => by rw [k5 c hc, lu_c _ _ _ hc]⟩
  · subst q3
    rw [if_neg (nI_nle q1 (by omega)), lm_br, h2]
    have key : ∃ τ', (lm_b2 (F_X3_takes τ (nI (sepN w))) fun r12 σ11 => lm_br (¬ r12 = 0) (lm_lt (lm_u σ11 0 5 (σ11 0 3)) fun σ14 => lm_br ((σ14 0 2) = 0) (lm_b2 (F_X3_readRow σ14) fun r17 σ16 => lm_gd (r17 = 0 ∨ r17 = 1) (some (r17, σ16))) (lm_b2 (F_X3_readDeed σ14) fun r20 σ19 => lm_gd (r20 = 0 ∨ r20 = 1) (some (r20, σ19)))) (some ((0 : Int32), σ11))) = some (if iOk C w (b + 1) then 1 else 0, τ') ∧ τ' 0 3 = nI (iE C w (b + 1)) ∧ τ' 0 5 = nI (b + 1) ∧ (iOk C w (b + 1) → VA C w (b + 1) (fun i => τ' 0 (6 + i))) ∧ (∀ j, j = 1 ∨ j = 2 ∨ j = 4 → τ' 0 j = τ 0 j) ∧ ∀ c, c ≠ 0 → τ' c = τ c := by
      have hs : sepN w < 127 := by unfold sepN; split <;> omega
      rw [c_takes hP h3 (by omega) hs, if_pos q2, if_pos q2, lm_b2_some, lm_br, if_pos (by decide), lm_lt_eq, lu_same]
      obtain ⟨τ1, k1, k2, k3, k4, k5⟩ := c_item ((hP.u (i := 3) (by omega) (nI (b + 1))).u (i := 5) (by omega) (nI (b + 1))) w (a := b + 1) (by rw [lu_ne _ _ (by omega), lu_ne _ _ (by omega)]; exact h2) (by rw [lu_ne _ _ (by omega), lu_same]) (lu_same _ _ _ _) (by omega)
      refine ⟨τ1, k1, k2, by rw [k4 5 (by omega), lu_same], k3, fun j hj => by rw [k4 j (by omega), lu_ne _ _ (by omega), lu_ne _ _ (by omega)], fun c hc => by rw [k5 c hc, lu_c _ _ _ hc, lu_c _ _ _ hc]⟩
    cases w with
    | false =>
      rw [if_pos (by decide)]
      exact key
    | true =>
      rw [if_neg (by decide)]
      exact key
theorem c_nextNo {τ : Hp} (hP : CP τ C n) (w : Bool) {b : Nat} (h2 : τ 0 2 = nI (wN w)) (h3 : τ 0 3 = nI b) (hb : 0 < b) (hA : C b ≠ sepN w) (ha : b ≤ 60) : F_X3_next τ = some (0, τ) := by
  unfold F_X3_next
  have hs : sepN w < 127 := by unfold sepN; split <;> omega
  have ht := c_takes hP h3 (by omega) hs
  rw [if_neg hA, if_neg hA] at ht
  rw [lm_br, h3, if_neg (nI_nle hb (by omega)), lm_br, h2]
  cases w with
  | false =>
    have ht' : F_X3_takes τ 44 = some (0, τ) := ht
    rw [if_pos (by decide), ht', lm_b2_some, lm_br, if_neg (by decide)]
  | true =>
    have ht' : F_X3_takes τ 59 = some (0, τ) := ht
    rw [if_neg (by decide), ht', lm_b2_some, lm_br, if_neg (by decide)]
end PD2
