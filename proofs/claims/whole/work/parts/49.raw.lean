/-! given numbers: any -/
theorem raw_nat {x : Int32} (h : ¬ x < 0) : ∃ k, k < 2147483648 ∧ x = nI k := by
  have h0 : (0 : Int32) ≤ x := Int32.not_lt.mp h
  have e : nI x.toNatClampNeg = x := Int32.ofNat_toNatClampNeg x h0
  refine ⟨x.toNatClampNeg, ?_, e.symm⟩
  have := x.toNatClampNeg_lt
  omega
theorem raw_in (x : Int32) {m : Nat} (hm : m < 2147483648) : (F_X7_in x 0 (nI m) = some 0 ∧ ∀ k, k ≤ m → x ≠ nI k) ∨ (F_X7_in x 0 (nI m) = some 1 ∧ ∃ k, k ≤ m ∧ x = nI k) := by
  unfold F_X7_in
  by_cases h : x < 0
  · rw [lm_br, if_pos h]
    refine Or.inl ⟨rfl, fun k hk e => ?_⟩
    rw [e] at h
    exact absurd h (nI_nlt (a := k) (b := 0) (Nat.zero_le _) (by omega))
  · obtain ⟨k, hk, e⟩ := raw_nat h
    subst e
    rw [lm_br, if_neg h, lm_br]
    by_cases q : k ≤ m
    · rw [if_neg (nI_nlt q (by omega))]
      exact Or.inr ⟨rfl, k, q, rfl⟩
    · rw [if_pos (nI_lt (by omega) (by omega))]
      exact Or.inl ⟨rfl, fun j hj e => by have := (nI_eq (by omega) (by omega)).mp e; omega⟩
theorem within_in (x y : Int32) : F_X6_isWithin x y = F_X7_in x 0 y := rfl
theorem raw_row (x y : Int32) : (F_X7_isRowOf x y = some 0 ∧ F_X6_isRow x y = some 0) ∨ ((F_X7_isRowOf x y = some 1 ∧ F_X6_isRow x y = some 1) ∧ ∃ k v, k < 10 ∧ v ≤ 99 ∧ x = nI k ∧ y = nI v) := by
  unfold F_X7_isRowOf F_X6_isRow F_X6_isKey
  rw [within_in, within_in, show (9 : Int32) = nI 9 from rfl, show (99 : Int32) = nI 99 from rfl]
  rcases raw_in x (m := 9) (by omega) with ⟨a1, -⟩ | ⟨a1, k, a2, a3⟩
  · refine Or.inl ⟨?_, ?_⟩
    · rw [a1, lm_bd_some, lm_br, if_pos rfl]
    · rw [a1, lm_bd_some, lm_gd, if_pos (Or.inl rfl), lm_bd_some, lm_br, if_pos rfl]
  · rcases raw_in y (m := 99) (by omega) with ⟨b1, -⟩ | ⟨b1, v, b2, b3⟩
    · refine Or.inl ⟨?_, ?_⟩
      · rw [a1, b1, lm_bd_some, lm_br, if_neg (by decide), lm_bd_some, lm_br, if_pos rfl]
      · rw [a1, b1, lm_bd_some, lm_gd, if_pos (Or.inr rfl), lm_bd_some, lm_br, if_neg (by decide), lm_bd_some, lm_br, if_pos rfl]
    · refine Or.inr ⟨⟨?_, ?_⟩, k, v, by omega, b2, a3, b3⟩
      · rw [a1, b1, lm_bd_some, lm_br, if_neg (by decide), lm_bd_some, lm_br, if_neg (by decide)]
      · rw [a1, b1, lm_bd_some, lm_gd, if_pos (Or.inr rfl), lm_bd_some, lm_br, if_neg (by decide), lm_bd_some, lm_br, if_neg (by decide)]
/-- a place in a table of n rows: the class's look and the reference's -/
theorem raw_has {τ : Hp} {n : Nat} (h : τ 0 2 = nI n) (hn : n ≤ 20) (x : Int32) : (F_X5_has τ x = some 0 ∧ ∀ r, r < n → x ≠ nI r) ∨ (F_X5_has τ x = some 1 ∧ ∃ r, r < n ∧ x = nI r) := by
  by_cases q : x < 0
  · refine Or.inl ⟨?_, fun r hr e => ?_⟩
    · unfold F_X5_has
      rw [lm_br, if_pos q]
    · rw [e] at q
      exact absurd q (nI_nlt (a := r) (b := 0) (Nat.zero_le _) (by omega))
  · obtain ⟨r, hr, e⟩ := raw_nat q
    subst e
    rw [c_has h hn hr]
    by_cases w : r < n
    · rw [if_pos w]
      exact Or.inr ⟨rfl, r, w, rfl⟩
    · rw [if_neg w]
      exact Or.inl ⟨rfl, fun j hj e => by have := (nI_eq (by omega) (by omega)).mp e; omega⟩
section RW1
variable {g : Nat → Nat} {μ : Hp}
theorem neg_in {x : Int32} (h : x < 0) (y : Int32) : F_X7_in x 0 y = some 0 := by
  unfold F_X7_in
  rw [lm_br, if_pos h]
theorem raw_inner (hM : Mo μ g) (h5 : g 5 ≤ 20) (x : Int32) : (F_X7_isInner μ x = some 0 ∧ ∀ r, r < g 5 → x ≠ nI r) ∨ (F_X7_isInner μ x = some 1 ∧ ∃ r, r < g 5 ∧ x = nI r) := by
  by_cases q : x < 0
  · refine Or.inl ⟨?_, fun r hr e => ?_⟩
    · unfold F_X7_isInner
      rw [neg_in q, lm_bd_some, lm_gd, if_pos (Or.inl rfl)]
    · rw [e] at q
      exact absurd q (nI_nlt (a := r) (b := 0) (Nat.zero_le _) (by omega))
  · obtain ⟨r, hr, e⟩ := raw_nat q
    subst e
    rw [o_isInner hM h5 hr]
    by_cases w : r < g 5
    · rw [if_pos w]
      exact Or.inr ⟨rfl, r, w, rfl⟩
    · rw [if_neg w]
      exact Or.inl ⟨rfl, fun j hj e => by have := (nI_eq (by omega) (by omega)).mp e; omega⟩
theorem raw_outer (hM : Mo μ g) (h6 : g 6 ≤ 20) (x : Int32) : (F_X7_isOuter μ x = some 0 ∧ ∀ r, r < g 6 → x ≠ nI r) ∨ (F_X7_isOuter μ x = some 1 ∧ ∃ r, r < g 6 ∧ x = nI r) := by
  by_cases q : x < 0
  · refine Or.inl ⟨?_, fun r hr e => ?_⟩
    · unfold F_X7_isOuter
      rw [neg_in q, lm_bd_some, lm_gd, if_pos (Or.inl rfl)]
    · rw [e] at q
      exact absurd q (nI_nlt (a := r) (b := 0) (Nat.zero_le _) (by omega))
  · obtain ⟨r, hr, e⟩ := raw_nat q
    subst e
    rw [o_isOuter hM h6 hr]
    by_cases w : r < g 6
    · rw [if_pos w]
      exact Or.inr ⟨rfl, r, w, rfl⟩
    · rw [if_neg w]
      exact Or.inl ⟨rfl, fun j hj e => by have := (nI_eq (by omega) (by omega)).mp e; omega⟩
end RW1
