/-! order, room, throwing out, keeping: the reference -/
/-- one goes ahead of another, by the reference's numbers -/
def ah (g : Nat → Nat) (j k : Nat) : Bool :=
  if g 1 = 2 then decide (g (117 + j) < g (117 + k)) else if g 1 = 1 then decide (g (97 + j) < g (97 + k)) || (decide (g (97 + j) = g (97 + k)) && decide (g (107 + j) < g (107 + k))) else decide (g (107 + j) < g (107 + k))
/-- the numbers of the memory are small -/
def Kc (g : Nat → Nat) : Prop := g 1 ≤ 2 ∧ ∀ k, k < 10 → g (97 + k) < 1073741824 ∧ (0 < g (97 + k) → g (107 + k) < 1073741824 ∧ g (117 + k) < 1073741824)
theorem Kc.b {g : Nat → Nat} (h : Kc g) : Kb g := fun k hk => Nat.lt_trans (h.2 k hk).1 (by omega)
section OM
variable {μ : Hp} {g : Nat → Nat}
theorem n12 : ((1 : Nat) = 2) = False := eq_false (by decide)
theorem ev_subneg {a b : Nat} (ha : a < 1073741824) (hb : b < 1073741824) : (nI a - nI b < nI 0) = (a < b) := by
  apply propext
  have e0 : (nI 0 : Int32) = 0 := nI_0
  rw [e0]
  constructor
  · intro h
    rcases Nat.lt_or_ge a b with q | q
    · exact q
    · rw [pk_sub q] at h
      exact absurd h (nI_pos (by omega))
  · intro h
    exact pk_sneg hb h
theorem ev_subz {a b : Nat} (ha : a < 1073741824) (hb : b < 1073741824) : (nI a - nI b = nI 0) = (a = b) := by
  apply propext
  constructor
  · intro h
    rcases Nat.lt_trichotomy a b with q | q | q
    · have := pk_sneg hb q
      rw [h] at this
      exact absurd this (by rw [nI_0]; decide)
    · exact q
    · rw [pk_sub (Nat.le_of_lt q)] at h
      have := (nI_eq (by omega) (by omega)).mp h
      omega
  · intro h
    subst h
    rw [pk_sub (Nat.le_refl a), Nat.sub_self]
/-- the place in the order -/
def oD (g : Nat → Nat) (q : Nat) : Nat → Nat → Nat
  | 0, _ => 0
  | d + 1, k => (if 0 < g (97 + k) then (if ah g k q = true then 1 else 0) else 0) + oD g q d (k + 1)
/-- the one that goes first, but for sp: a running best, 10 for none -/
def pD (kn : Nat → Bool) (a : Nat → Nat → Bool) (sp : Nat) : Nat → Nat → Nat → Nat
  | 0, _, b => b
  | d + 1, k, b => pD kn a sp d (k + 1) (if k ≠ sp ∧ kn k = true ∧ (10 ≤ b ∨ a k b = true) then k else b)
def knb (g : Nat → Nat) (k : Nat) : Bool := decide (0 < g (97 + k))
def fir (g : Nat → Nat) (sp : Nat) : Nat := pD (knb g) (ah g) sp 10 0 10
/-- a number that stands for none, or a key -/
def nk (z : Int32) (b : Nat) : Int32 := if b < 10 then nI b else z
theorem pD_spec (kn : Nat → Bool) (a : Nat → Nat → Bool) (sp : Nat) : ∀ d k b, k + d = 10 → b ≤ 10 → (b < 10 → b ≠ sp ∧ kn b = true) → (pD kn a sp d k b ≤ 10 ∧ (pD kn a sp d k b < 10 → pD kn a sp d k b ≠ sp ∧ kn (pD kn a sp d k b) = true) ∧ (pD kn a sp d k b = 10 → b = 10 ∧ ∀ j, k ≤ j → j < 10 → ¬ (j ≠ sp ∧ kn j = true))) := by
  intro d
  induction d with
  | zero =>
    intro k b hk hb h
    rw [pD]
    exact ⟨hb, h, fun e => ⟨e, fun j h1 h2 => by omega⟩⟩
  | succ d ih =>
    intro k b hk hb h
    rw [pD]
    by_cases c : k ≠ sp ∧ kn k = true ∧ (10 ≤ b ∨ a k b = true)
    · rw [if_pos c]
      obtain ⟨i1, i2, i3⟩ := ih (k + 1) k (by omega) (by omega) (fun _ => ⟨c.1, c.2.1⟩)
      exact ⟨i1, i2, fun e => by have := (i3 e).1; omega⟩
    · rw [if_neg c]
      obtain ⟨i1, i2, i3⟩ := ih (k + 1) b (by omega) hb h
      refine ⟨i1, i2, fun e => ?_⟩
      obtain ⟨e1, e2⟩ := i3 e
      refine ⟨e1, fun j h1 h2 => ?_⟩
      rcases Nat.lt_or_ge k j with q | q
      · exact e2 j q h2
      · have : j = k := by omega
        subst this
        exact fun q => c ⟨q.1, q.2, Or.inl (by omega)⟩
theorem pD_congr (kn : Nat → Bool) (a a' : Nat → Nat → Bool) (sp : Nat) (h : ∀ j k, j < 10 → k < 10 → kn j = true → kn k = true → a j k = a' j k) : ∀ d k b, k + d = 10 → b ≤ 10 → (b < 10 → kn b = true) → pD kn a sp d k b = pD kn a' sp d k b := by
  intro d
  induction d with
  | zero => intro k b _ _ _; rfl
  | succ d ih =>
    intro k b hk hb h2
    rw [pD, pD]
    have e : (if k ≠ sp ∧ kn k = true ∧ (10 ≤ b ∨ a k b = true) then k else b) = (if k ≠ sp ∧ kn k = true ∧ (10 ≤ b ∨ a' k b = true) then k else b) := by
      by_cases c : kn k = true
      · by_cases b10 : b < 10
        · rw [h k b (by omega) b10 c (h2 b10)]
        · have : 10 ≤ b := by omega
          simp [this]
      · simp [c]
    rw [e]
    apply ih
    · omega
    · split <;> omega
    · split
      · next c => exact fun _ => c.2.1
      · exact h2
end OM

