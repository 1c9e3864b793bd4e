/-! given numbers: any -/
theorem raw_nat {x : Int32} (h : ¬ x < 0) : ∃ k, k < 2147483648 ∧ x = nI k := by
  have h0 : (0 : Int32) ≤ x := Int32.not_lt.mp h
  have e : nI x.toNatClampNeg = x := Int32.ofNat_toNatClampNeg x h0
  refine ⟨x.toNatClampNeg, ?_, e.symm⟩
  have := x.toNatClampNeg_lt
  omega
/-- a place in a table of n rows: the class's look and the reference's -/
theorem raw_has {τ : Hp} {n : Nat} (h : τ 0 2 = nI n) (hn : n ≤ 20) (x : Int32) : (F_X5_has τ x = some 0 ∧ ∀ r, r < n → x ≠ nI r) ∨ (F_X5_has τ x = some 1 ∧ ∃ r, r < n ∧ x = nI r) := by
  by_cases q : x < 0
  · refine Or.inl ⟨?_, fun r hr e => ?_⟩
    · unfold F_X5_has
      rw [lm_br, if_pos q]
    · rw [e] at q
      exact absurd q (nI_nlt (a := r) (b := 0) (Nat.zero_le _) (by omega))
  · obtain ⟨r, hr, e⟩ := raw_nat q
    subst e
    rw [c_has h hn hr]
    by_cases w : r < n
    · rw [if_pos w]
      exact Or.inr ⟨rfl, r, w, rfl⟩
    · rw [if_neg w]
      exact Or.inl ⟨rfl, fun j hj e => by have := (nI_eq (by omega) (by omega)).mp e; omega⟩
section RW1
variable {g : Nat → Nat} {μ : Hp}
end RW1

