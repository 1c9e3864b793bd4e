/-! the class: keeping true -/
section CF2
variable {g : Nat → Nat}
theorem c_known {σ : Hp} (hm : Cm σ g) (hK : Kn g) (h16 : g 16 ≤ 1000000) {k : Nat} (hk : k < 10) : F_X2_holds (lm_sh 11 σ) (nI k) = some (if 0 < g (97 + k) then nI 1 else nI 0) := by
  obtain ⟨q, l, f, c1, c2, c3, c4⟩ := hm
  exact c_holds hk (by have := (hK k hk).1; omega) (c3 k hk).1
/-- but the memory and the counts all is as it was -/
def Cg (σ σ' : Hp) : Prop := ∀ c, c < 11 ∨ c = 15 → σ' c = σ c
theorem Cs_Sm {σ σ' : Hp} {g' : Nat → Nat} {x : Nat} (h : Cs σ g x) (hR : Rin g) (hO : Rou g) (hS : Sm g g') (hc : Cg σ σ') (hy : Cy σ' g' x) (hm : Cm σ' g') : Cs σ' g' x := ⟨Ct_Mf h.1 hR hO (fun c q => hc c (by omega)) hS, Ca_Mf h.2.1 hR.1 (fun c q => hc c (by omega)) hS, hy, hm⟩
theorem Cm_un {σ : Hp} (h : Cm σ g) {i : Nat} (y : Nat) (hi : i < 97 ∧ i ≠ 16) : Cm σ (un g i y) := by
  obtain ⟨q, l, f, c1, c2, c3, c4⟩ := h
  refine ⟨q, l, f, c1, by rw [un_ne _ _ (by omega)]; exact c2, fun k hk => ?_, fun j k hj hk => ?_⟩
  · rw [un_ne _ _ (by omega)]
    exact c3 k hk
  · rw [un_ne _ _ (by omega), un_ne _ _ (by omega), un_ne _ _ (by omega), un_ne _ _ (by omega), un_ne _ _ (by omega), un_ne _ _ (by omega)]
    exact c4 j k hj hk
theorem ka_Sm (g : Nat → Nat) (k : Nat) : Sm g (ka g k) := by
  unfold ka
  split
  · split
    · exact Sm.rf.un _ (by omega)
    · exact (Sm.rf.un _ (by omega)).un _ (by omega)
  · exact Sm.rf
theorem ka_Kn {g : Nat → Nat} (h : Kn g) {k : Nat} (hk : k < 10) : Kn (ka g k) ∧ ka g k 16 = g 16 := by
  unfold ka
  split
  · split
    · exact ⟨Kn_un h _ (by omega), un_ne _ _ (by omega)⟩
    · exact ⟨Kn_un (Kn_lose h hk) _ (by omega), by rw [un_ne _ _ (by omega), un_ne _ _ (by omega)]⟩
  · exact ⟨h, rfl⟩
theorem c_keepA {σ : Hp} {x : Nat} (hC : Cs σ g x) (hR : Rin g) (hO : Rou g) (hK : Kn g) (h16 : g 16 ≤ 1000000) (h2 : g 2 ≤ 2) {k : Nat} (hk : k < 10) : ∃ σ', F_X4_keepAnswerTrue σ (nI k) = some σ' ∧ Cs σ' (ka g k) x := by
  have hS := ka_Sm g k
  obtain ⟨hT, ha, hy, hm⟩ := id hC
  have s2 : σ 15 2 = nI (g 2) := hT.2.2.2 2 (by omega)
  unfold F_X4_keepAnswerTrue ka
  rw [c_known hm hK h16 hk, lm_bd_some, s2, ev_k2, lm_br]
  by_cases kn : 0 < g (97 + k)
  · rw [if_pos kn, if_pos (by decide), if_pos kn, lm_br]
    by_cases g2 : g 2 = 2
    · rw [if_neg (not_not_intro (by rw [g2])), if_pos g2, lm_lt_eq, hy 6 (by omega), if_neg (by omega), nI_1]
      refine ⟨_, rfl, Cs_Sm hC hR hO (Sm.rf.un _ (by omega)) (fun c hc => lu_c _ _ _ (by omega)) (fun j hj => ?_) (Cm_un (Cm_cells hm (fun c hc => lu_c _ _ _ (by omega))) _ (by omega))⟩
      by_cases e : j = 6
      · subst e
        rw [lu_same, if_neg (by omega), un_same]
      · rw [lu_ne _ _ e, hy j hj]
        congr 1
        split
        · rfl
        · rw [un_ne _ _ (by omega)]
    · rw [if_pos (fun q => g2 ((nI_eq (by omega) (by omega)).mp q)), if_neg g2, c_lose hk, lm_bd_some, lm_lt_eq]
      have hMf : Mf σ (lm_sb σ 11 4 (lm_u (lm_sh 11 σ) 1 k (nI 0))) := Mf.rf.sb
      rw [hMf 16 (by omega), hy 4 (by omega), if_neg (by omega), nI_1, lm_lt_eq]
      refine ⟨_, rfl, Cs_Sm hC hR hO ((Sm.rf.un _ (by omega)).un _ (by omega)) (fun c hc => by rw [lu_c _ _ _ (by omega), hMf c (by omega)]) (fun j hj => ?_) (Cm_un (Cm_cells (Cm_lose hm hk) (fun c hc => lu_c _ _ _ (by omega))) _ (by omega))⟩
      by_cases e : j = 4
      · subst e
        rw [lu_same, if_neg (by omega), un_same]
      · rw [lu_ne _ _ e, hMf 16 (by omega), hy j hj]
        congr 1
        split
        · rfl
        · rw [un_ne _ _ (by omega), un_ne _ _ (by omega)]
  · rw [if_neg kn, if_neg (by decide), if_neg kn]
    exact ⟨_, rfl, hC⟩
theorem c_size_L {σ : Hp} (hm : ∀ k, k < 10 → σ 1 k = nI (g (97 + k)) ∧ g (97 + k) < 2147483648) : ∀ d n k acc, k + d = 10 → d < n → F_X2_size_L4 n σ (nI acc) (nI k) = some (nI (acc + kD g d k)) := by
  intro d
  induction d with
  | zero =>
    intro n k acc hr hn
    cases n with
    | zero => omega
    | succ n =>
      have k10 : (10 : Int32) ≤ nI k := by rw [ev_k10]; exact nI_le (by omega) (by omega)
      rw [F_X2_size_L4, kD, lm_br, if_pos k10]
      rfl
  | succ d ih =>
    intro n k acc hr hn
    cases n with
    | zero => omega
    | succ n =>
      have k10 : ¬ (10 : Int32) ≤ nI k := by rw [ev_k10]; exact nI_ge (by omega) (by omega)
      obtain ⟨y1, y2⟩ := hm k (by omega)
      rw [F_X2_size_L4, kD, lm_br, if_neg k10, ev_gi (by omega) (by omega), ev_cl (by omega), y1, lm_br, show (0 : Int32) = nI 0 from rfl, ev_add, nI_1, nI_1]
      by_cases q : 0 < g (97 + k)
      · rw [if_neg (nI_ge q (by omega)), if_pos q, ih n (k + 1) _ (by omega) (by omega)]
        congr 2
        omega
      · rw [if_pos (nI_le (by omega) (by omega)), if_neg q, ih n (k + 1) _ (by omega) (by omega)]
        congr 2
        omega
theorem c_msize {σ : Hp} (hm : Cm σ g) (hK : Kn g) (h16 : g 16 ≤ 1000000) : F_X2_size (lm_sh 11 σ) = some (nI (kno g)) := by
  obtain ⟨q, l, f, c1, c2, c3, c4⟩ := hm
  unfold F_X2_size
  refine (c_size_L (g := g) (σ := lm_sh 11 σ) (fun k hk => ⟨(c3 k hk).1, by have := (hK k hk).1; omega⟩) 10 1000 0 0 (by omega) (by omega)).trans ?_
  rw [Nat.zero_add]
  rfl
theorem c_loseAll_L : ∀ d n (τ : Hp) k r, k + d = 10 → d < n → ∃ τ', F_X2_loseAll_L7 n τ r (nI k) = some (r, τ') ∧ (∀ c, c ≠ 1 → τ' c = τ c) ∧ ∀ i, i < 10 → τ' 1 i = if k ≤ i then nI 0 else τ 1 i := by
  intro d
  induction d with
  | zero =>
    intro n τ k r hr hn
    cases n with
    | zero => omega
    | succ n =>
      have k10 : (10 : Int32) ≤ nI k := by rw [ev_k10]; exact nI_le (by omega) (by omega)
      rw [F_X2_loseAll_L7, lm_br, if_pos k10]
      exact ⟨_, rfl, fun _ _ => rfl, fun i hi => by rw [if_neg (by omega)]⟩
  | succ d ih =>
    intro n τ k r hr hn
    cases n with
    | zero => omega
    | succ n =>
      have k10 : ¬ (10 : Int32) ≤ nI k := by rw [ev_k10]; exact nI_ge (by omega) (by omega)
      rw [F_X2_loseAll_L7, lm_br, if_neg k10, ev_gi (by omega) (by omega), ev_cl (by omega), lm_lt_eq, nI_1]
      obtain ⟨τ', i1, i2, i3⟩ := ih n (lm_u τ 1 k 0) (k + 1) r (by omega) (by omega)
      refine ⟨τ', i1, fun c hc => by rw [i2 c hc, lu_c _ _ _ hc], fun i hi => ?_⟩
      rw [i3 i hi]
      by_cases e : i = k
      · subst e
        rw [if_neg (by omega), if_pos (Nat.le_refl _), lu_same]
        rfl
      · rw [lu_ne _ _ e]
        by_cases q : k + 1 ≤ i
        · rw [if_pos q, if_pos (by omega)]
        · rw [if_neg q, if_neg (by omega)]
theorem la_Sm (g : Nat → Nat) : Sm g (la g) := fun j a b => by
  unfold la laF
  rw [if_neg (by omega), if_neg (by omega)]
theorem la_Kn {g : Nat → Nat} (h : Kn g) : Kn (la g) ∧ la g 16 = g 16 := by
  have e16 : la g 16 = g 16 := by unfold la laF; rw [if_neg (by omega), if_neg (by omega)]
  refine ⟨fun k hk => ?_, e16⟩
  have e : la g (97 + k) = 0 := by unfold la laF; rw [if_pos (by omega)]
  rw [e]
  exact ⟨by omega, fun q => by omega⟩
theorem c_throwAllOut {σ : Hp} {x : Nat} (hT : Ct σ g) (ha : Ca σ g) (hy : Cy σ g x) (hm : Cm σ g) (hR : Rin g) (hO : Rou g) (hK : Kn g) (h16 : g 16 ≤ 1000000) : ∃ σ', F_X4_throwAllOut σ = some (nI (kno g), σ') ∧ Cs σ' (la g) x := by
  unfold F_X4_throwAllOut F_X2_loseAll
  rw [c_msize hm hK h16, lm_bd_some]
  obtain ⟨τ', i1, i2, i3⟩ := c_loseAll_L 10 1000 (lm_sh 11 σ) 0 (nI (kno g)) (by omega) (by omega)
  rw [show (0 : Int32) = nI 0 from rfl, i1, lm_b2_some, lm_lt_eq]
  have hMf : Mf σ (lm_sb σ 11 4 τ') := Mf.rf.sb
  rw [hMf 16 (by omega), hy 4 (by omega), if_neg (by omega), ev_add, lm_lt_eq]
  refine ⟨_, rfl, Cs_Sm ⟨hT, ha, hy, hm⟩ hR hO (la_Sm g) (fun c hc => by rw [lu_c _ _ _ (by omega), hMf c (by omega)]) (fun j hj => ?_) ?_⟩
  · have l13 : la g 13 = g 13 + kno g := by unfold la laF; rw [if_neg (by omega), if_pos rfl]; rfl
    by_cases e : j = 4
    · subst e
      rw [lu_same, if_neg (by omega), l13]
    · rw [lu_ne _ _ e, hMf 16 (by omega), hy j hj]
      congr 1
      split
      · rfl
      · unfold la laF
        rw [if_neg (by omega), if_neg (by omega)]
  · obtain ⟨q, l, f, c1, c2, c3, c4⟩ := hm
    have e0 : ∀ k, k < 10 → la g (97 + k) = 0 := fun k hk => by unfold la laF; rw [if_pos (by omega)]
    refine ⟨q, l, f, ?_, by rw [(la_Kn hK).2]; exact c2, fun k hk => ⟨?_, fun z => by rw [e0 k hk] at z; omega⟩, fun j k hj hk z => by rw [e0 j hj] at z; omega⟩
    · rw [lu_c _ _ _ (by omega)]
      show τ' 0 3 = _
      rw [i2 0 (by omega)]
      exact c1
    · rw [e0 k hk, lu_c _ _ _ (by omega)]
      show τ' 1 k = _
      rw [i3 k hk, if_pos (Nat.zero_le _)]
theorem c_keepTrue {σ : Hp} {x : Nat} (hT : Ct σ g) (hy : Cy σ g x) (hm : Cm σ g) (hR : Rin g) (hO : Rou g) (hK : Kn g) (h16 : g 16 ≤ 1000000) (h2 : g 2 ≤ 2) {a b : Nat} (ha : a < 10) (hb : b < 10) : ∃ σ', F_X4_keepTrue σ (nI a) (nI b) = some σ' ∧ Cs σ' (kp g a b) x := by
  obtain ⟨σ1, f1, f2, f3⟩ := c_findAnswers hT hR
  have hT1 : Ct σ1 g := Ct_Mf hT hR hO (fun c hc => f3 c (by omega)) Sm.rf
  have hy1 : Cy σ1 g x := fun j hj => by rw [f3 16 (by omega)]; exact hy j hj
  have hm1 : Cm σ1 g := Cm_cells hm (fun c hc => f3 c (by omega))
  have hC1 : Cs σ1 g x := ⟨hT1, f2, hy1, hm1⟩
  unfold F_X4_keepTrue
  rw [f1, lm_bd_some, hT1.2.2.2 2 (by omega), ev_k1, lm_br]
  by_cases g1 : g 2 = 1
  · rw [if_neg (not_not_intro (by rw [g1]))]
    obtain ⟨σ2, t1, t2⟩ := c_throwAllOut hT1 f2 hy1 hm1 hR hO hK h16
    rw [t1, lm_b2_some]
    refine ⟨_, rfl, ?_⟩
    unfold kp
    rw [if_pos g1]
    exact t2
  · rw [if_pos (fun q => g1 ((nI_eq (by omega) (by omega)).mp q)), kp_ka ha hb g1 h2]
    obtain ⟨σ2, t1, t2⟩ := c_keepA hC1 hR hO hK h16 h2 ha
    rw [t1, lm_bd_some, lm_br]
    by_cases e : b = a
    · rw [if_pos (by rw [e]), if_pos e]
      exact ⟨_, rfl, t2⟩
    · rw [if_neg (fun q => e ((nI_eq (by omega) (by omega)).mp q)), if_neg e]
      have hS := ka_Sm g a
      obtain ⟨k1, k2⟩ := ka_Kn hK ha
      obtain ⟨σ3, u1, u2⟩ := c_keepA t2 (hS.rin hR) (hS.rou hO) k1 (by omega) (by rw [hS 2 (by omega) (by omega)]; exact h2) hb
      rw [u1, lm_bd_some]
      exact ⟨_, rfl, u2⟩
end CF2

