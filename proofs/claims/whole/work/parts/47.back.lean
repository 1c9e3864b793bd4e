/-! the reference: laying aside, taking back -/
section CP1
variable {g : Nat → Nat}
theorem o_aside_L : ∀ d m k (μ : Hp), k + d = 127 → d < m → ∃ μ', F_X7_putsAside_L2 m μ (nI k) = some μ' ∧ (∀ c, c ≠ 4 → μ' c = μ c) ∧ (∀ x, μ' 4 x = if k ≤ x ∧ x < 127 then μ 1 x else μ 4 x) := by
  intro d
  induction d with
  | zero =>
    intro m k μ hk hm
    cases m with
    | zero => omega
    | succ m =>
      rw [F_X7_putsAside_L2, ev_k127, lm_br, if_pos (nI_le (by omega) (by omega))]
      exact ⟨μ, rfl, fun c _ => rfl, fun x => by rw [if_neg (by omega)]⟩
  | succ d ih =>
    intro m k μ hk hm
    cases m with
    | zero => omega
    | succ m =>
      rw [F_X7_putsAside_L2, ev_k127, lm_br, if_neg (nI_ge (by omega) (by omega)), ev_gi (by omega) (by omega), ev_gi (by omega) (by omega), ev_cl (by omega), lm_lt_eq, nI_1]
      obtain ⟨μ', i1, i2, i3⟩ := ih m (k + 1) (lm_u μ 4 k (μ 1 k)) (by omega) (by omega)
      refine ⟨μ', i1, fun c hc => by rw [i2 c hc, lu_c _ _ _ hc], fun x => ?_⟩
      rw [i3 x, lu_c _ (c := 4) (d := 1) _ _ (by omega)]
      by_cases e : x = k
      · subst e
        rw [if_neg (by omega), lu_same, if_pos (by omega)]
      · rw [lu_ne _ _ e]
        by_cases q : k + 1 ≤ x ∧ x < 127
        · rw [if_pos q, if_pos (by omega)]
        · rw [if_neg q, if_neg (by omega)]
theorem o_back_L : ∀ d m k (μ : Hp), k + d = 127 → d < m → ∃ μ', F_X7_putsBack_L2 m μ (nI k) = some μ' ∧ (∀ c, c ≠ 1 → μ' c = μ c) ∧ (∀ x, μ' 1 x = if k ≤ x ∧ x < 127 then μ 4 x else μ 1 x) := by
  intro d
  induction d with
  | zero =>
    intro m k μ hk hm
    cases m with
    | zero => omega
    | succ m =>
      rw [F_X7_putsBack_L2, ev_k127, lm_br, if_pos (nI_le (by omega) (by omega))]
      exact ⟨μ, rfl, fun c _ => rfl, fun x => by rw [if_neg (by omega)]⟩
  | succ d ih =>
    intro m k μ hk hm
    cases m with
    | zero => omega
    | succ m =>
      rw [F_X7_putsBack_L2, ev_k127, lm_br, if_neg (nI_ge (by omega) (by omega)), ev_gi (by omega) (by omega), ev_gi (by omega) (by omega), ev_cl (by omega), lm_lt_eq, nI_1]
      obtain ⟨μ', i1, i2, i3⟩ := ih m (k + 1) (lm_u μ 1 k (μ 4 k)) (by omega) (by omega)
      refine ⟨μ', i1, fun c hc => by rw [i2 c hc, lu_c _ _ _ hc], fun x => ?_⟩
      rw [i3 x, lu_c _ (c := 1) (d := 4) _ _ (by omega)]
      by_cases e : x = k
      · subst e
        rw [if_neg (by omega), lu_same, if_pos (by omega)]
      · rw [lu_ne _ _ e]
        by_cases q : k + 1 ≤ x ∧ x < 127
        · rw [if_pos q, if_pos (by omega)]
        · rw [if_neg q, if_neg (by omega)]
theorem o_save_L : ∀ d m k (μ : Hp), k + d = 127 → d < m → ∃ μ', F_X7_save_L7 m μ (nI k) = (lm_bd (F_X7_known μ') fun r3 => some (r3, μ')) ∧ (∀ c, c ≠ 3 → μ' c = μ c) ∧ (∀ x, μ' 3 x = if k ≤ x ∧ x < 127 then μ 1 x else μ 3 x) := by
  intro d
  induction d with
  | zero =>
    intro m k μ hk hm
    cases m with
    | zero => omega
    | succ m =>
      rw [F_X7_save_L7, ev_k127, lm_br, if_pos (nI_le (by omega) (by omega))]
      exact ⟨μ, rfl, fun c _ => rfl, fun x => by rw [if_neg (by omega)]⟩
  | succ d ih =>
    intro m k μ hk hm
    cases m with
    | zero => omega
    | succ m =>
      rw [F_X7_save_L7, ev_k127, lm_br, if_neg (nI_ge (by omega) (by omega)), ev_gi (by omega) (by omega), ev_gi (by omega) (by omega), ev_cl (by omega), lm_lt_eq, nI_1]
      obtain ⟨μ', i1, i2, i3⟩ := ih m (k + 1) (lm_u μ 3 k (μ 1 k)) (by omega) (by omega)
      refine ⟨μ', i1, fun c hc => by rw [i2 c hc, lu_c _ _ _ hc], fun x => ?_⟩
      rw [i3 x, lu_c _ (c := 3) (d := 1) _ _ (by omega)]
      by_cases e : x = k
      · subst e
        rw [if_neg (by omega), lu_same, if_pos (by omega)]
      · rw [lu_ne _ _ e]
        by_cases q : k + 1 ≤ x ∧ x < 127
        · rw [if_pos q, if_pos (by omega)]
        · rw [if_neg q, if_neg (by omega)]
theorem o_rest_L : ∀ d m k (μ : Hp), k + d = 127 → d < m → ∃ μ', F_X7_restore_L16 m μ (nI k) = (lm_bd (F_X7_known μ') fun r4 => some (r4, μ')) ∧ (∀ c, c ≠ 1 → μ' c = μ c) ∧ (∀ x, μ' 1 x = if k ≤ x ∧ x < 127 then μ 3 x else μ 1 x) := by
  intro d
  induction d with
  | zero =>
    intro m k μ hk hm
    cases m with
    | zero => omega
    | succ m =>
      rw [F_X7_restore_L16, ev_k127, lm_br, if_pos (nI_le (by omega) (by omega))]
      exact ⟨μ, rfl, fun c _ => rfl, fun x => by rw [if_neg (by omega)]⟩
  | succ d ih =>
    intro m k μ hk hm
    cases m with
    | zero => omega
    | succ m =>
      rw [F_X7_restore_L16, ev_k127, lm_br, if_neg (nI_ge (by omega) (by omega)), ev_gi (by omega) (by omega), ev_gi (by omega) (by omega), ev_cl (by omega), lm_lt_eq, nI_1]
      obtain ⟨μ', i1, i2, i3⟩ := ih m (k + 1) (lm_u μ 1 k (μ 3 k)) (by omega) (by omega)
      refine ⟨μ', i1, fun c hc => by rw [i2 c hc, lu_c _ _ _ hc], fun x => ?_⟩
      rw [i3 x, lu_c _ (c := 1) (d := 3) _ _ (by omega)]
      by_cases e : x = k
      · subst e
        rw [if_neg (by omega), lu_same, if_pos (by omega)]
      · rw [lu_ne _ _ e]
        by_cases q : k + 1 ≤ x ∧ x < 127
        · rw [if_pos q, if_pos (by omega)]
        · rw [if_neg q, if_neg (by omega)]
theorem o_undo_L {n : Nat} (hn : n ≤ 3) : ∀ d m k (μ : Hp), μ 0 5 = nI n → k + d = 127 → d < m → ∃ μ', F_X7_undo_L22 m μ (nI k) = some (nI n, μ') ∧ (∀ c, c ≠ 1 → μ' c = μ c) ∧ (∀ x, μ' 1 x = if k ≤ x ∧ x < 127 then μ 2 (127 * n + x) else μ 1 x) := by
  intro d
  induction d with
  | zero =>
    intro m k μ h5 hk hm
    cases m with
    | zero => omega
    | succ m =>
      rw [F_X7_undo_L22, ev_k127, lm_br, if_pos (nI_le (by omega) (by omega)), h5]
      exact ⟨μ, rfl, fun c _ => rfl, fun x => by rw [if_neg (by omega)]⟩
  | succ d ih =>
    intro m k μ h5 hk hm
    cases m with
    | zero => omega
    | succ m =>
      rw [F_X7_undo_L22, ev_k127, lm_br, if_neg (nI_ge (by omega) (by omega)), h5, ev_mul, ev_add, ev_gi (by omega) (by omega), ev_gi (by omega) (by omega), ev_cl (by omega), ev_cl (by omega), lm_lt_eq, nI_1]
      obtain ⟨μ', i1, i2, i3⟩ := ih m (k + 1) (lm_u μ 1 k (μ 2 (127 * n + k))) (by rw [lu_c _ _ _ (by omega)]; exact h5) (by omega) (by omega)
      refine ⟨μ', i1, fun c hc => by rw [i2 c hc, lu_c _ _ _ hc], fun x => ?_⟩
      rw [i3 x, lu_c _ (c := 1) (d := 2) _ _ (by omega)]
      by_cases e : x = k
      · subst e
        rw [if_neg (by omega), lu_same, if_pos (by omega)]
      · rw [lu_ne _ _ e]
        by_cases q : k + 1 ≤ x ∧ x < 127
        · rw [if_pos q, if_pos (by omega)]
        · rw [if_neg q, if_neg (by omega)]
theorem o_aside {μ : Hp} (hM : Mo μ g) : ∃ μ', F_X7_putsAside μ = some μ' ∧ (∀ c, c ≠ 4 → μ' c = μ c) ∧ ∀ j, j < 127 → μ' 4 j = nI (g j) := by
  obtain ⟨μ', i1, i2, i3⟩ := o_aside_L 127 1000 0 μ (by omega) (by omega)
  exact ⟨μ', i1, i2, fun j hj => by rw [i3, if_pos (by omega)]; exact hM j hj⟩
theorem o_back {μ : Hp} (h4 : ∀ j, j < 127 → μ 4 j = nI (g j)) : ∃ μ', F_X7_putsBack μ = some μ' ∧ (∀ c, c ≠ 1 → μ' c = μ c) ∧ Mo μ' g := by
  obtain ⟨μ', i1, i2, i3⟩ := o_back_L 127 1000 0 μ (by omega) (by omega)
  exact ⟨μ', i1, i2, fun j hj => by rw [i3, if_pos (by omega)]; exact h4 j hj⟩
theorem o_save {μ : Hp} (hM : Mo μ g) (hK : Kb g) : ∃ μ', F_X7_save μ = some (nI (kno g), μ') ∧ μ' 0 4 = 1 ∧ (∀ j, j ≠ 4 → μ' 0 j = μ 0 j) ∧ (∀ c, c ≠ 0 → c ≠ 3 → μ' c = μ c) ∧ ∀ j, j < 127 → μ' 3 j = nI (g j) := by
  obtain ⟨μ', i1, i2, i3⟩ := o_save_L 127 1000 0 (lm_u μ 0 4 1) (by omega) (by omega)
  have hM' : Mo μ' g := fun j hj => by rw [i2 1 (by omega), lu_c _ _ _ (by omega)]; exact hM j hj
  refine ⟨μ', ?_, ?_, fun j hj => ?_, fun c h0 h3 => ?_, fun j hj => ?_⟩
  · unfold F_X7_save
    rw [lm_lt_eq]
    refine i1.trans ?_
    rw [o_known hM' hK, lm_bd_some]
  · rw [i2 0 (by omega), lu_same]
  · rw [i2 0 (by omega), lu_ne _ _ hj]
  · rw [i2 c h3, lu_c _ _ _ h0]
  · rw [i3, if_pos (by omega), lu_c _ _ _ (by omega)]
    exact hM j hj
theorem o_restore {μ μ4 : Hp} {g' : Nat → Nat} (h4 : ¬ μ 0 4 = 0) (hc : F_X7_changes μ = some μ4) (h3 : ∀ j, j < 127 → μ4 3 j = nI (g' j)) (hK : Kb g') : ∃ μ', F_X7_restore μ = some (nI (kno g'), μ') ∧ Mo μ' g' ∧ Fr μ4 μ' := by
  obtain ⟨μ', i1, i2, i3⟩ := o_rest_L 127 1000 0 μ4 (by omega) (by omega)
  have hM' : Mo μ' g' := fun j hj => by rw [i3, if_pos (by omega)]; exact h3 j hj
  refine ⟨μ', ?_, hM', i2⟩
  unfold F_X7_restore
  rw [lm_br, if_pos h4, hc, lm_bd_some]
  refine i1.trans ?_
  rw [o_known hM' hK, lm_bd_some]
theorem o_undo {μ : Hp} {n : Nat} {H : Nat → Nat → Nat} (hH : Hs μ n H) (h0 : 0 < n) : ∃ μ', F_X7_undo μ = some (nI (n - 1), μ') ∧ Mo μ' (H (n - 1)) ∧ Hs μ' (n - 1) H ∧ (∀ j, j ≠ 5 → μ' 0 j = μ 0 j) ∧ (∀ c, c ≠ 0 → c ≠ 1 → μ' c = μ c) := by
  obtain ⟨h5, hn, hp⟩ := hH
  obtain ⟨μ', i1, i2, i3⟩ := o_undo_L (n := n - 1) (by omega) 127 1000 0 (lm_u μ 0 5 (nI (n - 1))) (lu_same _ _ _ _) (by omega) (by omega)
  refine ⟨μ', ?_, fun j hj => ?_, ⟨?_, by omega, fun i hi j hj => ?_⟩, fun j hj => ?_, fun c c0 c1 => ?_⟩
  · unfold F_X7_undo
    rw [lm_br, if_pos (show ¬ μ 0 5 = (0 : Int32) by rw [h5, ev_k0]; exact fun z => by have := (nI_eq (by omega) (by omega)).mp z; omega), h5, ev_k1, pk_sub (by omega), lm_lt_eq]
    exact i1
  · rw [i3, if_pos (by omega), lu_c _ _ _ (by omega)]
    exact hp (n - 1) (by omega) j hj
  · rw [i2 0 (by omega), lu_same]
  · rw [i2 2 (by omega), lu_c _ _ _ (by omega)]
    exact hp i (by omega) j hj
  · rw [i2 0 (by omega), lu_ne _ _ hj]
  · rw [i2 c c1, lu_c _ _ _ c0]
end CP1
