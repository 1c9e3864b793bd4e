/-! numbers: own work -/
theorem ev_k0 : (0 : Int32) = nI 0 := rfl
theorem ev_k1 : (1 : Int32) = nI 1 := rfl
theorem ev_k2 : (2 : Int32) = nI 2 := rfl
theorem ev_k3 : (3 : Int32) = nI 3 := rfl
theorem ev_k4 : (4 : Int32) = nI 4 := rfl
theorem ev_k5 : (5 : Int32) = nI 5 := rfl
theorem ev_k6 : (6 : Int32) = nI 6 := rfl
theorem ev_k7 : (7 : Int32) = nI 7 := rfl
theorem ev_k8 : (8 : Int32) = nI 8 := rfl
theorem ev_k9 : (9 : Int32) = nI 9 := rfl
theorem ev_k10 : (10 : Int32) = nI 10 := rfl
theorem ev_k11 : (11 : Int32) = nI 11 := rfl
theorem ev_k12 : (12 : Int32) = nI 12 := rfl
theorem ev_k13 : (13 : Int32) = nI 13 := rfl
theorem ev_k14 : (14 : Int32) = nI 14 := rfl
theorem ev_k15 : (15 : Int32) = nI 15 := rfl
theorem ev_k16 : (16 : Int32) = nI 16 := rfl
theorem ev_k17 : (17 : Int32) = nI 17 := rfl
theorem ev_k18 : (18 : Int32) = nI 18 := rfl
theorem ev_k19 : (19 : Int32) = nI 19 := rfl
theorem ev_k20 : (20 : Int32) = nI 20 := rfl
theorem ev_k33 : (33 : Int32) = nI 33 := rfl
theorem ev_k43 : (43 : Int32) = nI 43 := rfl
theorem ev_k44 : (44 : Int32) = nI 44 := rfl
theorem ev_k45 : (45 : Int32) = nI 45 := rfl
theorem ev_k48 : (48 : Int32) = nI 48 := rfl
theorem ev_k57 : (57 : Int32) = nI 57 := rfl
theorem ev_k58 : (58 : Int32) = nI 58 := rfl
theorem ev_k59 : (59 : Int32) = nI 59 := rfl
theorem ev_k60 : (60 : Int32) = nI 60 := rfl
theorem ev_k97 : (97 : Int32) = nI 97 := rfl
theorem ev_k99 : (99 : Int32) = nI 99 := rfl
theorem ev_k107 : (107 : Int32) = nI 107 := rfl
theorem ev_k114 : (114 : Int32) = nI 114 := rfl
theorem ev_k115 : (115 : Int32) = nI 115 := rfl
theorem ev_k117 : (117 : Int32) = nI 117 := rfl
theorem ev_k124 : (124 : Int32) = nI 124 := rfl
theorem ev_k126 : (126 : Int32) = nI 126 := rfl
theorem ev_k127 : (127 : Int32) = nI 127 := rfl
theorem ev_k381 : (381 : Int32) = nI 381 := rfl
theorem ev_k508 : (508 : Int32) = nI 508 := rfl
theorem lm_bd_some {α β : Type} (a : α) (f : α → Option β) : lm_bd (some a) f = f a := rfl
theorem lm_b2_some {α β γ : Type} (a : α) (b : β) (f : α → β → Option γ) : lm_b2 (some (a, b)) f = f a b := rfl
theorem lm_lt_eq {α β : Type} (x : α) (f : α → β) : lm_lt x f = f x := rfl
theorem ev_gi {α : Type} {n N : Nat} {x : Option α} (h : n < N) (hN : N < 2147483648) : lm_gi (nI n) N x = x := if_neg (vp_in_nI h hN)
theorem ev_cl {n : Nat} (h : n < 2147483648) : (nI n).toNatClampNeg = n := nI_clamp h
theorem ev_add (a b : Nat) : nI a + nI b = nI (a + b) := nI_add a b
theorem ev_mul (a b : Nat) : nI a * nI b = nI (a * b) := pk_mul a b
theorem ev_sub {a b : Nat} (h : b ≤ a) : nI a - nI b = nI (a - b) := pk_sub h
theorem ev_lt_t {a b : Nat} (hb : b < 2147483648) (h : a < b) : (nI a < nI b) = True := eq_true (nI_lt h hb)
theorem ev_lt_f {a b : Nat} (ha : a < 2147483648) (h : b ≤ a) : (nI a < nI b) = False := eq_false (nI_nlt h ha)
theorem ev_le_t {a b : Nat} (hb : b < 2147483648) (h : a ≤ b) : (nI a ≤ nI b) = True := eq_true (nI_le h hb)
theorem ev_le_f {a b : Nat} (ha : a < 2147483648) (h : b < a) : (nI a ≤ nI b) = False := eq_false (nI_ge h ha)
theorem ev_eq_t {a b : Nat} (h : a = b) : (nI a = nI b) = True := eq_true (by rw [h])
theorem ev_eq_f {a b : Nat} (ha : a < 2147483648) (hb : b < 2147483648) (h : a ≠ b) : (nI a = nI b) = False := eq_false (fun e => h ((nI_eq ha hb).mp e))
/-- the reference's numbers, as natural ones -/
abbrev Mo (μ : Hp) (g : Nat → Nat) : Prop := ∀ j, j < 127 → μ 1 j = nI (g j)
def un (g : Nat → Nat) (i x : Nat) : Nat → Nat := fun j => if j = i then x else g j
/-- row r of the inner table is in the answer for k -/
def mt (g : Nat → Nat) (k r : Nat) : Bool := decide (g (17 + 2 * r) = k) && decide (g 3 ≤ g (18 + 2 * r)) && decide (g (18 + 2 * r) ≤ g 4)
def cD (g : Nat → Nat) (k : Nat) : Nat → Nat → Nat
  | 0, _ => 0
  | d + 1, r => (if mt g k r = true then 1 else 0) + cD g k d (r + 1)
def sD (g : Nat → Nat) (k : Nat) : Nat → Nat → Nat
  | 0, _ => 0
  | d + 1, r => (if mt g k r = true then g (18 + 2 * r) else 0) + sD g k d (r + 1)
def fD (g : Nat → Nat) (k : Nat) : Nat → Nat → Nat
  | 0, r => r
  | d + 1, r => if mt g k r = true then r else fD g k d (r + 1)
def cnt (g : Nat → Nat) (k : Nat) : Nat := cD g k (g 5) 0
def sm (g : Nat → Nat) (k : Nat) : Nat := sD g k (g 5) 0
def fs (g : Nat → Nat) (k : Nat) : Nat := fD g k (g 5) 0
theorem cD_le (g : Nat → Nat) (k : Nat) : ∀ d r, cD g k d r ≤ d
  | 0, _ => Nat.le_refl 0
  | d + 1, r => by
    have := cD_le g k d (r + 1)
    rw [cD]
    split <;> omega
/-- what the rows of the inner table are -/
def Rin (g : Nat → Nat) : Prop := g 5 ≤ 20 ∧ g 3 ≤ 99 ∧ g 4 ≤ 99 ∧ ∀ i, i < g 5 → g (17 + 2 * i) < 10 ∧ g (18 + 2 * i) ≤ 99
def Rou (g : Nat → Nat) : Prop := g 6 ≤ 20 ∧ g 7 ≤ g 6 ∧ ∀ i, i < g 6 → g (57 + 2 * i) < 10 ∧ g (58 + 2 * i) ≤ 99
def Kn (g : Nat → Nat) : Prop := ∀ k, k < 10 → g (97 + k) ≤ g 16 ∧ (0 < g (97 + k) → g (107 + k) ≤ g 16 ∧ g (117 + k) ≤ g 16)
/-- bounds: t for the total, c for the looks -/
def In (t c : Nat) (g : Nat → Nat) : Prop := Rin g ∧ Rou g ∧ Kn g ∧ (g 0 ≤ 60 ∧ g 1 ≤ 2 ∧ g 2 ≤ 2) ∧ (g 8 ≤ 196020 * (t + g 7) ∧ g 16 ≤ c ∧ t ≤ 1000 ∧ c ≤ 1000000)
/-! the reference's looks -/
