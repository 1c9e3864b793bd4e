/-! taking a row out: the reference -/
section CD1
variable {g : Nat → Nat} {μ : Hp}
/-- the places from lo to hi take what stood two further -/
def sh2 (g : Nat → Nat) (lo hi : Nat) : Nat → Nat := fun j => if lo ≤ j ∧ j < hi then g (j + 2) else g j
theorem sh2_out {g : Nat → Nat} {lo hi j : Nat} (h : ¬ (lo ≤ j ∧ j < hi)) : sh2 g lo hi j = g j := if_neg h
theorem sh2_in {g : Nat → Nat} {lo hi j : Nat} (h : lo ≤ j ∧ j < hi) : sh2 g lo hi j = g (j + 2) := if_pos h
theorem sh2_step (g : Nat → Nat) {lo hi : Nat} (h : lo ≤ hi) (j : Nat) : un (sh2 g lo hi) hi (g (hi + 2)) j = sh2 g lo (hi + 1) j := by
  by_cases e : j = hi
  · subst e
    rw [un_same, sh2_in (by omega)]
  · rw [un_ne _ _ e]
    by_cases q : lo ≤ j ∧ j < hi
    · rw [sh2_in q, sh2_in (by omega)]
    · rw [sh2_out q, sh2_out (by omega)]
def drO (g : Nat → Nat) (r : Nat) : Nat → Nat := un (sh2 (un g 6 (g 6 - 1)) (57 + 2 * r) (57 + 2 * (g 6 - 1))) 7 (g 7 - (if r < g 7 then 1 else 0))
def drI (g : Nat → Nat) (r : Nat) : Nat → Nat := sh2 (un g 5 (g 5 - 1)) (17 + 2 * r) (17 + 2 * (g 5 - 1))
theorem sh2_e {g : Nat → Nat} (a b : Nat) (j : Nat) : sh2 g (a + 2 * b) (a + 2 * b) j = g j := sh2_out (by omega)
end CD1

