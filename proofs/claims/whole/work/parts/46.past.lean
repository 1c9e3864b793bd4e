/-! the reference's past -/
section CH1
variable {g : Nat → Nat}
theorem o_ch58 {n : Nat} (hn : n ≤ 3) : ∀ d m k (μ : Hp), μ 0 5 = nI n → Mo μ g → k + d = 127 → d < m → ∃ μ', F_X7_changes_L58 m μ (nI k) = some μ' ∧ μ' 0 5 = nI (n + 1) ∧ (∀ j, j ≠ 5 → μ' 0 j = μ 0 j) ∧ (∀ c, c ≠ 0 → c ≠ 2 → μ' c = μ c) ∧ (∀ x, μ' 2 x = if 127 * n + k ≤ x ∧ x < 127 * n + 127 then nI (g (x - 127 * n)) else μ 2 x) := by
  intro d
  induction d with
  | zero =>
    intro m k μ h5 hM hk hm
    cases m with
    | zero => omega
    | succ m =>
      rw [F_X7_changes_L58, ev_k127, lm_br, if_pos (nI_le (by omega) (by omega)), lm_lt_eq, h5, nI_1]
      refine ⟨_, rfl, lu_same _ _ _ _, fun j hj => lu_ne _ _ hj, fun c h0 _ => lu_c _ _ _ h0, fun x => ?_⟩
      rw [lu_c _ _ _ (by omega), if_neg (by omega)]
  | succ d ih =>
    intro m k μ h5 hM hk hm
    cases m with
    | zero => omega
    | succ m =>
      rw [F_X7_changes_L58, ev_k127, lm_br, if_neg (nI_ge (by omega) (by omega)), h5, ev_mul, ev_add, ev_gi (by omega) (by omega), ev_gi (by omega) (by omega), ev_cl (by omega), ev_cl (by omega), hM k (by omega), lm_lt_eq, nI_1]
      obtain ⟨μ', i1, i2, i3, i4, i5⟩ := ih m (k + 1) (lm_u μ 2 (127 * n + k) (nI (g k))) (by rw [lu_c _ _ _ (by omega)]; exact h5) (fun j hj => by rw [lu_c _ _ _ (by omega)]; exact hM j hj) (by omega) (by omega)
      refine ⟨μ', i1, i2, fun j hj => by rw [i3 j hj, lu_c _ _ _ (by omega)], fun c h0 h2 => by rw [i4 c h0 h2, lu_c _ _ _ h2], fun x => ?_⟩
      rw [i5 x]
      by_cases e : x = 127 * n + k
      · subst e
        rw [if_neg (by omega), lu_same, if_pos (by omega), show 127 * n + k - 127 * n = k by omega]
      · rw [lu_ne _ _ e]
        by_cases q : 127 * n + (k + 1) ≤ x ∧ x < 127 * n + 127
        · rw [if_pos q, if_pos (by omega)]
        · rw [if_neg q, if_neg (by omega)]
theorem o_ch18 : ∀ d m k (μ : Hp), μ 0 5 = nI 4 → k + d = 381 → d < m → ∃ μ', F_X7_changes_L18 m μ (nI k) = F_X7_changes_L58 1000 μ' (nI 0) ∧ μ' 0 5 = nI 3 ∧ (∀ j, j ≠ 5 → μ' 0 j = μ 0 j) ∧ (∀ c, c ≠ 0 → c ≠ 2 → μ' c = μ c) ∧ (∀ x, μ' 2 x = if k ≤ x ∧ x < 381 then μ 2 (x + 127) else μ 2 x) := by
  intro d
  induction d with
  | zero =>
    intro m k μ h5 hk hm
    cases m with
    | zero => omega
    | succ m =>
      rw [F_X7_changes_L18, ev_k381, lm_br, if_pos (nI_le (by omega) (by omega)), lm_lt_eq, h5, ev_k1, pk_sub (by omega)]
      refine ⟨_, rfl, lu_same _ _ _ _, fun j hj => lu_ne _ _ hj, fun c h0 _ => lu_c _ _ _ h0, fun x => ?_⟩
      rw [lu_c _ _ _ (by omega), if_neg (by omega)]
  | succ d ih =>
    intro m k μ h5 hk hm
    cases m with
    | zero => omega
    | succ m =>
      rw [F_X7_changes_L18, ev_k381, lm_br, if_neg (nI_ge (by omega) (by omega)), ev_k127, ev_add, ev_gi (by omega) (by omega), ev_gi (by omega) (by omega), ev_cl (by omega), ev_cl (by omega), lm_lt_eq, nI_1]
      obtain ⟨μ', i1, i2, i3, i4, i5⟩ := ih m (k + 1) (lm_u μ 2 k (μ 2 (k + 127))) (by rw [lu_c _ _ _ (by omega)]; exact h5) (by omega) (by omega)
      refine ⟨μ', i1, i2, fun j hj => by rw [i3 j hj, lu_c _ _ _ (by omega)], fun c h0 h2 => by rw [i4 c h0 h2, lu_c _ _ _ h2], fun x => ?_⟩
      rw [i5 x]
      by_cases e : x = k
      · subst e
        rw [if_neg (by omega), lu_same, if_pos (by omega)]
      · by_cases q : k + 1 ≤ x ∧ x < 381
        · rw [if_pos q, if_pos (by omega), lu_ne _ _ (by omega)]
        · rw [if_neg q, if_neg (by omega), lu_ne _ _ e]
/-- the reference's past: n states, the newest last -/
def Hs (μ : Hp) (n : Nat) (H : Nat → Nat → Nat) : Prop := μ 0 5 = nI n ∧ n ≤ 4 ∧ ∀ i, i < n → ∀ j, j < 127 → μ 2 (127 * i + j) = nI (H i j)
def puH (n : Nat) (H : Nat → Nat → Nat) (g : Nat → Nat) : Nat → Nat → Nat := fun i => if n < 4 then (if i = n then g else H i) else (if i = 3 then g else H (i + 1))
def puN (n : Nat) : Nat := if n < 4 then n + 1 else 4
theorem o_changes {μ : Hp} {n : Nat} {H : Nat → Nat → Nat} (hM : Mo μ g) (hH : Hs μ n H) (h6 : μ 0 6 = 0) : ∃ μ', F_X7_changes μ = some μ' ∧ Mo μ' g ∧ Hs μ' (puN n) (puH n H g) ∧ (∀ j, j ≠ 5 → μ' 0 j = μ 0 j) ∧ (∀ c, c ≠ 0 → c ≠ 2 → μ' c = μ c) := by
  obtain ⟨h5, hn, hp⟩ := hH
  unfold F_X7_changes puN
  rw [lm_br, if_pos h6, lm_br]
  by_cases q : n < 4
  · rw [if_pos (show ¬ μ 0 5 = (4 : Int32) by rw [h5, ev_k4]; exact fun z => by have := (nI_eq (by omega) (by omega)).mp z; omega), if_pos q]
    obtain ⟨μ', i1, i2, i3, i4, i5⟩ := o_ch58 (g := g) (n := n) (by omega) 127 1000 0 μ h5 hM (by omega) (by omega)
    refine ⟨μ', i1, fun j hj => by rw [i4 1 (by omega) (by omega)]; exact hM j hj, ⟨i2, by omega, fun i hi j hj => ?_⟩, i3, i4⟩
    rw [i5]
    by_cases e : i = n
    · subst e
      unfold puH
      rw [if_pos (by omega), if_pos q, if_pos rfl, show 127 * i + j - 127 * i = j by omega]
    · unfold puH
      rw [if_neg (by omega), if_pos q, if_neg e]
      exact hp i (by omega) j hj
  · have e4 : n = 4 := by omega
    subst e4
    rw [if_neg (show ¬ ¬ μ 0 5 = (4 : Int32) from not_not_intro (by rw [h5]; rfl)), if_neg q]
    obtain ⟨μ1, k1, k2, k3, k4, k5⟩ := o_ch18 381 1000 0 μ h5 (by omega) (by omega)
    obtain ⟨μ', i1, i2, i3, i4, i5⟩ := o_ch58 (g := g) (n := 3) (by omega) 127 1000 0 μ1 k2 (fun j hj => by rw [k4 1 (by omega) (by omega)]; exact hM j hj) (by omega) (by omega)
    refine ⟨μ', k1.trans i1, fun j hj => ?_, ⟨i2, by omega, fun i hi j hj => ?_⟩, fun j hj => by rw [i3 j hj, k3 j hj], fun c h0 h2 => by rw [i4 c h0 h2, k4 c h0 h2]⟩
    · rw [i4 1 (by omega) (by omega), k4 1 (by omega) (by omega)]
      exact hM j hj
    · rw [i5]
      by_cases e : i = 3
      · subst e
        unfold puH
        rw [if_pos (by omega), if_neg q, if_pos rfl, show 127 * 3 + j - 127 * 3 = j by omega]
      · unfold puH
        rw [if_neg (by omega), if_neg q, if_neg e, k5, if_pos (by omega), show 127 * i + j + 127 = 127 * (i + 1) + j by omega]
        exact hp (i + 1) (by omega) j hj
end CH1
