/-! two rows change places: class and reference -/
section SW2
variable {g : Nat → Nat}
theorem sw_row (g : Nat → Nat) (i j k : Nat) : sw g i j (57 + 2 * k) = (if k = j then g (57 + 2 * i) else if k = i then g (57 + 2 * j) else g (57 + 2 * k)) ∧ sw g i j (58 + 2 * k) = (if k = j then g (58 + 2 * i) else if k = i then g (58 + 2 * j) else g (58 + 2 * k)) := by
  unfold sw
  constructor
  · rw [un_ne _ _ (by omega), un_ne _ _ (by omega)]
    by_cases e : k = j
    · subst e
      rw [if_pos rfl, show 57 + 2 * k = 57 + 2 * k + 0 from rfl, un_same]
      rfl
    · rw [if_neg e, un_ne _ _ (by omega)]
      by_cases f : k = i
      · subst f
        rw [if_pos rfl, show 57 + 2 * k = 57 + 2 * k + 0 from rfl, un_same]
        rfl
      · rw [if_neg f, un_ne _ _ (by omega)]
  · by_cases e : k = j
    · subst e
      rw [if_pos rfl, show 58 + 2 * k = 57 + 2 * k + 1 by omega, un_same, show 58 + 2 * i = 57 + 2 * i + 1 by omega]
    · rw [if_neg e, un_ne _ _ (by omega)]
      by_cases f : k = i
      · subst f
        rw [if_pos rfl, show 58 + 2 * k = 57 + 2 * k + 1 by omega, un_same, show 58 + 2 * j = 57 + 2 * j + 1 by omega]
      · rw [if_neg f, un_ne _ _ (by omega), un_ne _ _ (by omega), un_ne _ _ (by omega)]
theorem sw_e (g : Nat → Nat) {i j k : Nat} (hi : i < 20) (hj : j < 20) (hk : ¬ (57 ≤ k ∧ k < 97)) : sw g i j k = g k := by
  unfold sw
  rw [un_ne _ _ (by omega), un_ne _ _ (by omega), un_ne _ _ (by omega), un_ne _ _ (by omega)]
/-- the rows of the outer table -/
def Ot (τ : Hp) (g : Nat → Nat) : Prop := τ 0 2 = nI (g 6) ∧ ∀ i, i < g 6 → τ 1 i = nI (g (57 + 2 * i)) ∧ τ 2 i = nI (g (58 + 2 * i))
theorem Ot_swap {τ : Hp} {i j : Nat} (h : Ot τ g) (hi : i < g 6) (hj : j < g 6) (h6 : g 6 ≤ 20) : ∃ τ', F_X5_swap τ (nI i) (nI j) = some τ' ∧ Ot τ' (sw g i j) := by
  obtain ⟨h0, hr⟩ := h
  refine ⟨_, c_swap (by omega) (by omega), ?_, fun k hk => ?_⟩
  · rw [sw_e g (by omega) (by omega) (by omega), lu_c _ _ _ (by omega), lu_c _ _ _ (by omega), lu_c _ _ _ (by omega), lu_c _ _ _ (by omega)]
    exact h0
  · rw [sw_e g (by omega) (by omega) (by omega)] at hk
    rw [(sw_row g i j k).1, (sw_row g i j k).2]
    by_cases e : k = j
    · subst e
      rw [if_pos rfl, if_pos rfl, lu_c _ (c := 2) (d := 1) _ _ (by omega), lu_same, lu_same]
      exact hr i hi
    · rw [if_neg e, if_neg e, lu_c _ (c := 2) (d := 1) _ _ (by omega), lu_ne _ _ e, lu_ne _ _ e, lu_c _ (c := 2) (d := 1) _ _ (by omega), lu_c _ (c := 1) (d := 2) _ _ (by omega)]
      by_cases f : k = i
      · subst f
        rw [if_pos rfl, if_pos rfl, lu_same, lu_same]
        exact hr j hj
      · rw [if_neg f, if_neg f, lu_ne _ _ f, lu_ne _ _ f, lu_c _ (c := 1) (d := 2) _ _ (by omega)]
        exact hr k hk
end SW2
