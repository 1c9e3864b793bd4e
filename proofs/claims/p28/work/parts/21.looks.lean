/-! the reference's looks: own work -/
theorem un_same (g : Nat → Nat) (i x : Nat) : un g i x i = x := by simp [un]
theorem un_ne (g : Nat → Nat) {i j : Nat} (x : Nat) (h : j ≠ i) : un g i x j = g j := by simp [un, h]
theorem lu_same (σ : Hp) (c i : Nat) (x : Int32) : lm_u σ c i x c i = x := by simp [lm_u, upd]
theorem lu_ne (σ : Hp) {c i j : Nat} (x : Int32) (h : j ≠ i) : lm_u σ c i x c j = σ c j := by simp [lm_u, upd, h]
theorem lu_c (σ : Hp) {c d : Nat} (i : Nat) (x : Int32) (h : d ≠ c) : lm_u σ c i x d = σ d := by simp [lm_u, h]
theorem Mo_u {μ : Hp} {g : Nat → Nat} (h : Mo μ g) (i x : Nat) : Mo (lm_u μ 1 i (nI x)) (un g i x) := by
  intro j hj
  by_cases e : j = i
  · rw [e, lu_same, un_same]
  · rw [lu_ne _ _ e, un_ne _ _ e]
    exact h j hj
section OL
variable {μ : Hp} {g : Nat → Nat}
/-- how many are remembered, from k on -/
def kD (g : Nat → Nat) : Nat → Nat → Nat
  | 0, _ => 0
  | d + 1, k => (if 0 < g (97 + k) then 1 else 0) + kD g d (k + 1)
def wD (g : Nat → Nat) : Nat → Nat → Nat
  | 0, _ => 0
  | d + 1, k => (if 0 < g (97 + k) then 2 + cnt g k else 0) + wD g d (k + 1)
def kno (g : Nat → Nat) : Nat := kD g 10 0
def wei (g : Nat → Nat) : Nat := wD g 10 0
def Kb (g : Nat → Nat) : Prop := ∀ k, k < 10 → g (97 + k) < 2147483648
end OL

