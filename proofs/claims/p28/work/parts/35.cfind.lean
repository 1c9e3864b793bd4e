/-! the class: answers found anew, what is kept true -/
section CF
variable {g : Nat → Nat}
theorem m1_eq (x : Int32) : x + (-1) = x - 1 := Int32.add_neg_eq_sub
/-- the answers of the rows from r on -/
def Af (α : Hp) (g : Nat → Nat) (r : Nat) : Prop := ∀ k, k < 10 → α 1 k = nI (cD g k (g 5 - r) r) ∧ α 2 k = nI (sD g k (g 5 - r) r) ∧ (0 < cD g k (g 5 - r) r → α 3 k = nI (fD g k (g 5 - r) r))
theorem c_find_L40 {τ : Hp} (hR : Rin g) (hk : ∀ i, i < g 5 → τ 1 i = nI (g (17 + 2 * i)) ∧ τ 2 i = nI (g (18 + 2 * i))) : ∀ r n (α : Hp), r ≤ g 5 → r < n → Af α g r → ∃ α', F_X0_find_L40 n α τ (nI (g 3)) (nI (g 4)) (nI r - 1) = some α' ∧ Af α' g 0 := by
  obtain ⟨h5, h3, h4, hrow⟩ := hR
  intro r
  induction r with
  | zero =>
    intro n α hr hn hA
    cases n with
    | zero => omega
    | succ n =>
      have : (nI 0 - 1 : Int32) < 0 := by decide
      rw [F_X0_find_L40, lm_br, if_pos this]
      exact ⟨_, rfl, hA⟩
  | succ r ih =>
    intro n α hr hn hA
    cases n with
    | zero => omega
    | succ n =>
      obtain ⟨q1, q2⟩ := hrow r (by omega)
      obtain ⟨t1, t2⟩ := hk r (by omega)
      have ed : g 5 - r = (g 5 - (r + 1)) + 1 := by omega
      have n0 : ¬ nI r < 0 := nI_pos (by omega)
      rw [F_X0_find_L40, nI_pred, lm_br, if_neg n0, c_value (by omega), lm_bd_some, c_key (by omega), lm_bd_some, t1, t2, m1_eq]
      have k0 : ¬ nI (g (17 + 2 * r)) < 0 := nI_pos (by omega)
      have k10 : ¬ (10 : Int32) ≤ nI (g (17 + 2 * r)) := by rw [ev_k10]; exact nI_ge (by omega) (by omega)
      rw [lm_br, if_neg k0, lm_br, if_neg k10, lm_br]
      by_cases b : g 3 ≤ g (18 + 2 * r) ∧ g (18 + 2 * r) ≤ g 4
      · rw [if_neg (nI_nlt b.1 (by omega)), lm_br, if_neg (nI_nlt b.2 (by omega)), ev_gi (by omega) (by omega), ev_gi (by omega) (by omega), ev_cl (by omega), lm_lt_eq, ev_gi (by omega) (by omega), ev_gi (by omega) (by omega), lm_lt_eq, ev_gi (by omega) (by omega), lm_lt_eq]
        obtain ⟨y1, y2, y3⟩ := hA (g (17 + 2 * r)) (by omega)
        rw [y1, nI_1, lu_c α _ _ (show 2 ≠ 1 by omega), y2, ev_add]
        refine ih n _ (by omega) (by omega) (fun k hk => ?_)
        rw [ed, cD, sD, fD]
        by_cases e : g (17 + 2 * r) = k
        · have hm : mt g k r = true := by simp [mt, e, b.1, b.2]
          rw [if_pos hm, if_pos hm, if_pos hm, e]
          refine ⟨?_, ?_, fun _ => ?_⟩
          · rw [lu_c _ _ _ (by omega), lu_c _ _ _ (by omega), lu_same]
            congr 1
            omega
          · rw [lu_c _ _ _ (by omega), lu_same]
            congr 1
            omega
          · rw [lu_same]
        · have hm : ¬ mt g k r = true := by
            intro q
            simp [mt] at q
            exact e q.1.1
          rw [if_neg hm, if_neg hm, if_neg hm, Nat.zero_add, Nat.zero_add]
          have e' : k ≠ g (17 + 2 * r) := fun z => e z.symm
          rw [lu_c _ _ _ (by omega), lu_c _ _ _ (by omega), lu_ne _ _ e', lu_c _ _ _ (by omega), lu_ne _ _ e', lu_c _ _ _ (by omega), lu_ne _ _ e', lu_c _ _ _ (by omega), lu_c _ _ _ (by omega)]
          exact hA k hk
      · have go : ∃ α', F_X0_find_L40 n α τ (nI (g 3)) (nI (g 4)) (nI r - 1) = some α' ∧ Af α' g 0 := by
          refine ih n _ (by omega) (by omega) (fun k hk => ?_)
          have hm : ¬ mt g k r = true := by
            intro q
            simp [mt] at q
            exact b ⟨q.1.2, q.2⟩
          rw [ed, cD, sD, fD, if_neg hm, if_neg hm, if_neg hm, Nat.zero_add, Nat.zero_add]
          exact hA k hk
        by_cases b1 : g 3 ≤ g (18 + 2 * r)
        · rw [if_neg (nI_nlt b1 (by omega)), lm_br, if_pos (nI_lt (by omega) (by omega))]
          exact go
        · rw [if_pos (nI_lt (by omega) (by omega))]
          exact go
theorem c_find_L3 {τ : Hp} (hR : Rin g) (hs : τ 0 2 = nI (g 5)) (hk : ∀ i, i < g 5 → τ 1 i = nI (g (17 + 2 * i)) ∧ τ 2 i = nI (g (18 + 2 * i))) : ∀ d k n (α : Hp), k + d = 10 → d < n → (∀ i, i < k → α 1 i = nI 0 ∧ α 2 i = nI 0) → ∃ α', F_X0_find_L3 n α τ (nI (g 3)) (nI (g 4)) (nI k) = some α' ∧ Af α' g 0 := by
  intro d
  induction d with
  | zero =>
    intro k n α hkd hn hA
    cases n with
    | zero => omega
    | succ n =>
      have k10 : (10 : Int32) ≤ nI k := by rw [ev_k10]; exact nI_le (by omega) (by omega)
      have h5 := hR.1
      rw [F_X0_find_L3, lm_br, if_pos k10, c_size, lm_bd_some, hs]
      refine c_find_L40 hR hk (g 5) 1000 α (Nat.le_refl _) (by omega) (fun i hi => ?_)
      rw [Nat.sub_self]
      obtain ⟨y1, y2⟩ := hA i (by omega)
      exact ⟨y1, y2, fun q => by rw [cD] at q; omega⟩
  | succ d ih =>
    intro k n α hkd hn hA
    cases n with
    | zero => omega
    | succ n =>
      have k10 : ¬ (10 : Int32) ≤ nI k := by rw [ev_k10]; exact nI_ge (by omega) (by omega)
      rw [F_X0_find_L3, lm_br, if_neg k10, ev_gi (by omega) (by omega), ev_cl (by omega), lm_lt_eq, ev_gi (by omega) (by omega), lm_lt_eq, nI_1]
      refine ih (k + 1) n _ (by omega) (by omega) (fun i hi => ?_)
      by_cases e : i = k
      · subst e
        rw [lu_c _ _ _ (by omega), lu_same, lu_same]
        exact ⟨rfl, rfl⟩
      · rw [lu_c _ _ _ (show 1 ≠ 2 by omega), lu_ne _ _ e, lu_ne _ _ e, lu_c _ _ _ (show 2 ≠ 1 by omega)]
        exact hA i (by omega)
theorem c_findAnswers {σ : Hp} (hT : Ct σ g) (hR : Rin g) : ∃ σ', F_X4_findAnswers σ = some σ' ∧ Ca σ' g ∧ ∀ c, ¬ (7 ≤ c ∧ c ≤ 10) → σ' c = σ c := by
  obtain ⟨⟨a1, a2⟩, -, -, s1⟩ := hT
  unfold F_X4_findAnswers F_X0_find
  rw [s1 3 (by omega), s1 4 (by omega)]
  obtain ⟨α', h1, h2⟩ := c_find_L3 (τ := lm_sh 4 σ) hR a1 a2 10 0 1000 (lm_sh 7 σ) (by omega) (by omega) (fun i hi => by omega)
  rw [show (0 : Int32) = nI 0 from rfl, h1, lm_bd_some, lm_lt_eq]
  refine ⟨_, rfl, fun k hk => h2 k hk, fun c hc => ?_⟩
  unfold lm_sb
  rw [if_neg (by omega)]
end CF

