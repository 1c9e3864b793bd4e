/-! the reference's past -/
section CH1
variable {g : Nat → Nat}
/-- the reference's past: n states, the newest last -/
def Hs (μ : Hp) (n : Nat) (H : Nat → Nat → Nat) : Prop := μ 0 5 = nI n ∧ n ≤ 4 ∧ ∀ i, i < n → ∀ j, j < 127 → μ 2 (127 * i + j) = nI (H i j)
def puH (n : Nat) (H : Nat → Nat → Nat) (g : Nat → Nat) : Nat → Nat → Nat := fun i => if n < 4 then (if i = n then g else H i) else (if i = 3 then g else H (i + 1))
def puN (n : Nat) : Nat := if n < 4 then n + 1 else 4
end CH1

