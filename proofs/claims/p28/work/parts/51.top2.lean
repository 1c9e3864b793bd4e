/-! the other calls on the state -/
section TP2
theorem kno_le (g : Nat → Nat) : kno g ≤ 10 := kD_le g 10 0
theorem stD_le : ∀ d (g : Nat → Nat) n, g 5 ≤ 20 → g 6 ≤ 20 → (stD d g n).2 ≤ n + 22 * d
  | 0, _, _, _, _ => Nat.le_refl _
  | d + 1, g, n, h5, h6 => by
    rw [stD]
    split
    · have e5 : (s1 g).1 5 = g 5 := by
        unfold s1
        dsimp only
        rw [un_ne _ _ (by omega), un_ne _ _ (by omega)]
        exact lk_Sm g _ 5 (by omega) (by omega)
      have e6 : (s1 g).1 6 = g 6 := by
        unfold s1
        dsimp only
        rw [un_ne _ _ (by omega), un_ne _ _ (by omega)]
        exact lk_Sm g _ 6 (by omega) (by omega)
      have l2 : (s1 g).2 ≤ 22 := by
        show (lk g (g (57 + 2 * g 7))).2 ≤ 22
        unfold lk
        split
        · dsimp only; omega
        · split <;> dsimp only <;> omega
      have := stD_le d (s1 g).1 (n + (s1 g).2) (by omega) (by omega)
      omega
    · exact Nat.le_add_right _ _
end TP2

