/-! what the cells are: own work -/
theorem lm_cnt0 {α : Type} [BEq α] [LawfulBEq α] {l1 l2 : List α} (h : ∀ (f : List α → Nat) (g : α → Nat), (∀ a b, f (a ++ b) = f a + f b) → (∀ x l, f (x :: l) = g x + f l) → f [] = 0 → f l1 = f l2) : l1.Perm l2 := by
  rw [List.perm_iff_count]
  intro q
  exact h (fun l => l.count q) (fun x => if (x == q) = true then 1 else 0) (fun a b => List.count_append) (fun x l => by rw [List.count_cons, Nat.add_comm]) List.count_nil
theorem lm_cnt {α : Type} {l1 l2 : List α} (h : ∀ (f : List α → Nat) (g : α → Nat), (∀ a b, f (a ++ b) = f a + f b) → (∀ x l, f (x :: l) = g x + f l) → f [] = 0 → f l1 = f l2) : l1.Perm l2 :=
  @lm_cnt0 α (@instBEqOfDecidableEq α (fun a b => Classical.propDecidable (a = b))) inferInstance l1 l2 h
def tbW (z : ClassId) (a : Nat → Nat) (σ : Hp) : va_W := [(a 0, .inr (5, [.ref (a 1), .ref (a 2), .int (σ 0 2)])), (a 1, .inl (z, 20, .inl (σ 1))), (a 2, .inl (z, 20, .inl (σ 2)))]
def anW (z : ClassId) (a : Nat → Nat) (σ : Hp) : va_W := [(a 0, .inr (0, [.ref (a 1), .ref (a 2), .ref (a 3)])), (a 1, .inl (z, 10, .inl (σ 1))), (a 2, .inl (z, 10, .inl (σ 2))), (a 3, .inl (z, 10, .inl (σ 3)))]
def meW (z : ClassId) (a : Nat → Nat) (σ : Hp) : va_W := [(a 0, .inr (2, [.ref (a 1), .ref (a 2), .ref (a 3), .int (σ 0 3)])), (a 1, .inl (z, 10, .inl (σ 1))), (a 2, .inl (z, 10, .inl (σ 2))), (a 3, .inl (z, 10, .inl (σ 3)))]
def pdW (z : ClassId) (a : Nat → Nat) (σ : Hp) : va_W := [(a 0, .inr (3, [.ref (a 1), .int (σ 0 1), .int (σ 0 2), .int (σ 0 3), .int (σ 0 4), .int (σ 0 5), .int (σ 0 6), .int (σ 0 7), .int (σ 0 8)])), (a 1, .inl (z, 60, .inl (σ 1)))]
def mdW (z : ClassId) (a : Nat → Nat) (σ : Hp) : va_W := [(a 0, .inr (7, [.ref (a 1), .ref (a 2), .ref (a 3), .ref (a 4), .int (σ 0 4), .int (σ 0 5), .int (σ 0 6), .ref (a 5), .int (σ 0 8), .int (σ 0 9), .ref (a 6), .int (σ 0 11), .int (σ 0 12), .ref (a 7)])), (a 1, .inl (z, 127, .inl (σ 1))), (a 2, .inl (z, 508, .inl (σ 2))), (a 3, .inl (z, 127, .inl (σ 3))), (a 4, .inl (z, 127, .inl (σ 4))), (a 5, .inl (z, 60, .inl (σ 5))), (a 6, .inl (z, 3, .inl (σ 6))), (a 7, .inl (z, 124, .inl (σ 7)))]
def stW (z : ClassId) (a : Nat → Nat) (σ : Hp) : va_W := (a 0, .inr (4, [.ref (a 1), .ref (a 4), .ref (a 7), .ref (a 11), .ref (a 15), .ref (a 16), .int (σ 0 6), .int (σ 0 7)])) :: (tbW z (lm_sh 1 a) (lm_sh 1 σ) ++ (tbW z (lm_sh 4 a) (lm_sh 4 σ) ++ (anW z (lm_sh 7 a) (lm_sh 7 σ) ++ (meW z (lm_sh 11 a) (lm_sh 11 σ) ++ [(a 15, .inl (z, 5, .inl (σ 15))), (a 16, .inl (z, 7, .inl (σ 16)))]))))
def stR1 (z : ClassId) (a : Nat → Nat) (σ : Hp) : va_W := (a 0, .inr (4, [.ref (a 1), .ref (a 4), .ref (a 7), .ref (a 11), .ref (a 15), .ref (a 16), .int (σ 0 6), .int (σ 0 7)])) :: (tbW z (lm_sh 4 a) (lm_sh 4 σ) ++ (anW z (lm_sh 7 a) (lm_sh 7 σ) ++ (meW z (lm_sh 11 a) (lm_sh 11 σ) ++ [(a 15, .inl (z, 5, .inl (σ 15))), (a 16, .inl (z, 7, .inl (σ 16)))])))
theorem st_g1 (z : ClassId) (a : Nat → Nat) (σ : Hp) : (stW z a σ).Perm (tbW z (lm_sh 1 a) (lm_sh 1 σ) ++ stR1 z a σ) := by
  refine lm_cnt fun f g h1 h2 h3 => ?_
  simp only [stW, stR1, h1, h2, h3]
  omega
theorem st_p1 (z : ClassId) (a : Nat → Nat) (σ : Hp) (τ : Hp) : (tbW z (lm_sh 1 a) τ ++ stR1 z a σ).Perm (stW z a (lm_sb σ 1 3 τ)) := by
  have e : stW z a (lm_sb σ 1 3 τ) = (a 0, .inr (4, [.ref (a 1), .ref (a 4), .ref (a 7), .ref (a 11), .ref (a 15), .ref (a 16), .int (σ 0 6), .int (σ 0 7)])) :: (tbW z (lm_sh 1 a) τ ++ (tbW z (lm_sh 4 a) (lm_sh 4 σ) ++ (anW z (lm_sh 7 a) (lm_sh 7 σ) ++ (meW z (lm_sh 11 a) (lm_sh 11 σ) ++ [(a 15, .inl (z, 5, .inl (σ 15))), (a 16, .inl (z, 7, .inl (σ 16)))])))) := rfl
  rw [e]
  refine lm_cnt fun f g h1 h2 h3 => ?_
  simp only [stR1, h1, h2, h3]
  omega
theorem st_s1 (z : ClassId) (a : Nat → Nat) (σ : Hp) : ∀ q ∈ tbW z (lm_sh 1 a) (lm_sh 1 σ), q ∈ stW z a σ := fun q hq => (st_g1 z a σ).mem_iff.mpr (List.mem_append_left _ hq)
def stR4 (z : ClassId) (a : Nat → Nat) (σ : Hp) : va_W := (a 0, .inr (4, [.ref (a 1), .ref (a 4), .ref (a 7), .ref (a 11), .ref (a 15), .ref (a 16), .int (σ 0 6), .int (σ 0 7)])) :: (tbW z (lm_sh 1 a) (lm_sh 1 σ) ++ (anW z (lm_sh 7 a) (lm_sh 7 σ) ++ (meW z (lm_sh 11 a) (lm_sh 11 σ) ++ [(a 15, .inl (z, 5, .inl (σ 15))), (a 16, .inl (z, 7, .inl (σ 16)))])))
theorem st_g4 (z : ClassId) (a : Nat → Nat) (σ : Hp) : (stW z a σ).Perm (tbW z (lm_sh 4 a) (lm_sh 4 σ) ++ stR4 z a σ) := by
  refine lm_cnt fun f g h1 h2 h3 => ?_
  simp only [stW, stR4, h1, h2, h3]
  omega
theorem st_p4 (z : ClassId) (a : Nat → Nat) (σ : Hp) (τ : Hp) : (tbW z (lm_sh 4 a) τ ++ stR4 z a σ).Perm (stW z a (lm_sb σ 4 3 τ)) := by
  have e : stW z a (lm_sb σ 4 3 τ) = (a 0, .inr (4, [.ref (a 1), .ref (a 4), .ref (a 7), .ref (a 11), .ref (a 15), .ref (a 16), .int (σ 0 6), .int (σ 0 7)])) :: (tbW z (lm_sh 1 a) (lm_sh 1 σ) ++ (tbW z (lm_sh 4 a) τ ++ (anW z (lm_sh 7 a) (lm_sh 7 σ) ++ (meW z (lm_sh 11 a) (lm_sh 11 σ) ++ [(a 15, .inl (z, 5, .inl (σ 15))), (a 16, .inl (z, 7, .inl (σ 16)))])))) := rfl
  rw [e]
  refine lm_cnt fun f g h1 h2 h3 => ?_
  simp only [stR4, h1, h2, h3]
  omega
theorem st_s4 (z : ClassId) (a : Nat → Nat) (σ : Hp) : ∀ q ∈ tbW z (lm_sh 4 a) (lm_sh 4 σ), q ∈ stW z a σ := fun q hq => (st_g4 z a σ).mem_iff.mpr (List.mem_append_left _ hq)
def stR7 (z : ClassId) (a : Nat → Nat) (σ : Hp) : va_W := (a 0, .inr (4, [.ref (a 1), .ref (a 4), .ref (a 7), .ref (a 11), .ref (a 15), .ref (a 16), .int (σ 0 6), .int (σ 0 7)])) :: (tbW z (lm_sh 1 a) (lm_sh 1 σ) ++ (tbW z (lm_sh 4 a) (lm_sh 4 σ) ++ (meW z (lm_sh 11 a) (lm_sh 11 σ) ++ [(a 15, .inl (z, 5, .inl (σ 15))), (a 16, .inl (z, 7, .inl (σ 16)))])))
theorem st_g7 (z : ClassId) (a : Nat → Nat) (σ : Hp) : (stW z a σ).Perm (anW z (lm_sh 7 a) (lm_sh 7 σ) ++ stR7 z a σ) := by
  refine lm_cnt fun f g h1 h2 h3 => ?_
  simp only [stW, stR7, h1, h2, h3]
  omega
theorem st_p7 (z : ClassId) (a : Nat → Nat) (σ : Hp) (τ : Hp) : (anW z (lm_sh 7 a) τ ++ stR7 z a σ).Perm (stW z a (lm_sb σ 7 4 τ)) := by
  have e : stW z a (lm_sb σ 7 4 τ) = (a 0, .inr (4, [.ref (a 1), .ref (a 4), .ref (a 7), .ref (a 11), .ref (a 15), .ref (a 16), .int (σ 0 6), .int (σ 0 7)])) :: (tbW z (lm_sh 1 a) (lm_sh 1 σ) ++ (tbW z (lm_sh 4 a) (lm_sh 4 σ) ++ (anW z (lm_sh 7 a) τ ++ (meW z (lm_sh 11 a) (lm_sh 11 σ) ++ [(a 15, .inl (z, 5, .inl (σ 15))), (a 16, .inl (z, 7, .inl (σ 16)))])))) := rfl
  rw [e]
  refine lm_cnt fun f g h1 h2 h3 => ?_
  simp only [stR7, h1, h2, h3]
  omega
theorem st_s7 (z : ClassId) (a : Nat → Nat) (σ : Hp) : ∀ q ∈ anW z (lm_sh 7 a) (lm_sh 7 σ), q ∈ stW z a σ := fun q hq => (st_g7 z a σ).mem_iff.mpr (List.mem_append_left _ hq)
def stR11 (z : ClassId) (a : Nat → Nat) (σ : Hp) : va_W := (a 0, .inr (4, [.ref (a 1), .ref (a 4), .ref (a 7), .ref (a 11), .ref (a 15), .ref (a 16), .int (σ 0 6), .int (σ 0 7)])) :: (tbW z (lm_sh 1 a) (lm_sh 1 σ) ++ (tbW z (lm_sh 4 a) (lm_sh 4 σ) ++ (anW z (lm_sh 7 a) (lm_sh 7 σ) ++ [(a 15, .inl (z, 5, .inl (σ 15))), (a 16, .inl (z, 7, .inl (σ 16)))])))
theorem st_g11 (z : ClassId) (a : Nat → Nat) (σ : Hp) : (stW z a σ).Perm (meW z (lm_sh 11 a) (lm_sh 11 σ) ++ stR11 z a σ) := by
  refine lm_cnt fun f g h1 h2 h3 => ?_
  simp only [stW, stR11, h1, h2, h3]
  omega
theorem st_p11 (z : ClassId) (a : Nat → Nat) (σ : Hp) (τ : Hp) : (meW z (lm_sh 11 a) τ ++ stR11 z a σ).Perm (stW z a (lm_sb σ 11 4 τ)) := by
  have e : stW z a (lm_sb σ 11 4 τ) = (a 0, .inr (4, [.ref (a 1), .ref (a 4), .ref (a 7), .ref (a 11), .ref (a 15), .ref (a 16), .int (σ 0 6), .int (σ 0 7)])) :: (tbW z (lm_sh 1 a) (lm_sh 1 σ) ++ (tbW z (lm_sh 4 a) (lm_sh 4 σ) ++ (anW z (lm_sh 7 a) (lm_sh 7 σ) ++ (meW z (lm_sh 11 a) τ ++ [(a 15, .inl (z, 5, .inl (σ 15))), (a 16, .inl (z, 7, .inl (σ 16)))])))) := rfl
  rw [e]
  refine lm_cnt fun f g h1 h2 h3 => ?_
  simp only [stR11, h1, h2, h3]
  omega
theorem st_s11 (z : ClassId) (a : Nat → Nat) (σ : Hp) : ∀ q ∈ meW z (lm_sh 11 a) (lm_sh 11 σ), q ∈ stW z a σ := fun q hq => (st_g11 z a σ).mem_iff.mpr (List.mem_append_left _ hq)
def stR74 (z : ClassId) (a : Nat → Nat) (σ : Hp) : va_W := (a 0, .inr (4, [.ref (a 1), .ref (a 4), .ref (a 7), .ref (a 11), .ref (a 15), .ref (a 16), .int (σ 0 6), .int (σ 0 7)])) :: (tbW z (lm_sh 1 a) (lm_sh 1 σ) ++ (meW z (lm_sh 11 a) (lm_sh 11 σ) ++ [(a 15, .inl (z, 5, .inl (σ 15))), (a 16, .inl (z, 7, .inl (σ 16)))]))
theorem st_g74 (z : ClassId) (a : Nat → Nat) (σ : Hp) : (stW z a σ).Perm ((anW z (lm_sh 7 a) (lm_sh 7 σ) ++ tbW z (lm_sh 4 a) (lm_sh 4 σ)) ++ stR74 z a σ) := by
  refine lm_cnt fun f g h1 h2 h3 => ?_
  simp only [stW, stR74, h1, h2, h3]
  omega
theorem st_p74 (z : ClassId) (a : Nat → Nat) (σ : Hp) (τ : Hp) : ((anW z (lm_sh 7 a) τ ++ tbW z (lm_sh 4 a) (lm_sh 4 σ)) ++ stR74 z a σ).Perm (stW z a (lm_sb σ 7 4 τ)) := by
  have e : stW z a (lm_sb σ 7 4 τ) = (a 0, .inr (4, [.ref (a 1), .ref (a 4), .ref (a 7), .ref (a 11), .ref (a 15), .ref (a 16), .int (σ 0 6), .int (σ 0 7)])) :: (tbW z (lm_sh 1 a) (lm_sh 1 σ) ++ (tbW z (lm_sh 4 a) (lm_sh 4 σ) ++ (anW z (lm_sh 7 a) τ ++ (meW z (lm_sh 11 a) (lm_sh 11 σ) ++ [(a 15, .inl (z, 5, .inl (σ 15))), (a 16, .inl (z, 7, .inl (σ 16)))])))) := rfl
  rw [e]
  refine lm_cnt fun f g h1 h2 h3 => ?_
  simp only [stR74, h1, h2, h3]
  omega
def lmW (z zo : ClassId) (m : Nat → Nat) (a : Nat → Nat → Nat) (h : Nat → Hp) : va_W := (m 0, .inr (6, [.ref (a 0 0), .ref (a 1 0), .ref (a 2 0), .ref (m 3), .ref (m 1), .int (h 8 0 5), .int (h 8 0 6), .int (h 8 0 7), .int (h 8 0 8)])) :: (pdW z (lm_sh 1 m) (lm_sh 1 (h 8)) ++ (m 3, .inr (1, [.ref (m 4), .int (h 8 3 1), .int (h 8 3 2)])) :: (m 4, .inl (zo, 5, .inr (.inr (.inr (.inr (fun i => some (a (3 + i) 0))))))) :: (stW z (a 0) (h 0) ++ (stW z (a 1) (h 1) ++ (stW z (a 2) (h 2) ++ (stW z (a 3) (h 3) ++ (stW z (a 4) (h 4) ++ (stW z (a 5) (h 5) ++ (stW z (a 6) (h 6) ++ (stW z (a 7) (h 7) ++ [])))))))))
def lmR0 (z zo : ClassId) (m : Nat → Nat) (a : Nat → Nat → Nat) (h : Nat → Hp) : va_W := (m 0, .inr (6, [.ref (a 0 0), .ref (a 1 0), .ref (a 2 0), .ref (m 3), .ref (m 1), .int (h 8 0 5), .int (h 8 0 6), .int (h 8 0 7), .int (h 8 0 8)])) :: (pdW z (lm_sh 1 m) (lm_sh 1 (h 8)) ++ (m 3, .inr (1, [.ref (m 4), .int (h 8 3 1), .int (h 8 3 2)])) :: (m 4, .inl (zo, 5, .inr (.inr (.inr (.inr (fun i => some (a (3 + i) 0))))))) :: (stW z (a 1) (h 1) ++ (stW z (a 2) (h 2) ++ (stW z (a 3) (h 3) ++ (stW z (a 4) (h 4) ++ (stW z (a 5) (h 5) ++ (stW z (a 6) (h 6) ++ (stW z (a 7) (h 7) ++ []))))))))
theorem lm_g0 (z zo : ClassId) (m : Nat → Nat) (a : Nat → Nat → Nat) (h : Nat → Hp) : (lmW z zo m a h).Perm (stW z (a 0) (h 0) ++ lmR0 z zo m a h) := by
  refine lm_cnt fun f g h1 h2 h3 => ?_
  simp only [lmW, lmR0, h1, h2, h3]
  omega
theorem lm_p0 (z zo : ClassId) (m : Nat → Nat) (a : Nat → Nat → Nat) (h : Nat → Hp) (τ : Hp) : (stW z (a 0) τ ++ lmR0 z zo m a h).Perm (lmW z zo m a (lm_uB h 0 τ)) := by
  have e : lmW z zo m a (lm_uB h 0 τ) = (m 0, .inr (6, [.ref (a 0 0), .ref (a 1 0), .ref (a 2 0), .ref (m 3), .ref (m 1), .int (h 8 0 5), .int (h 8 0 6), .int (h 8 0 7), .int (h 8 0 8)])) :: (pdW z (lm_sh 1 m) (lm_sh 1 (h 8)) ++ (m 3, .inr (1, [.ref (m 4), .int (h 8 3 1), .int (h 8 3 2)])) :: (m 4, .inl (zo, 5, .inr (.inr (.inr (.inr (fun i => some (a (3 + i) 0))))))) :: (stW z (a 0) τ ++ (stW z (a 1) (h 1) ++ (stW z (a 2) (h 2) ++ (stW z (a 3) (h 3) ++ (stW z (a 4) (h 4) ++ (stW z (a 5) (h 5) ++ (stW z (a 6) (h 6) ++ (stW z (a 7) (h 7) ++ []))))))))) := rfl
  rw [e]
  refine lm_cnt fun f g h1 h2 h3 => ?_
  simp only [lmR0, h1, h2, h3]
  omega
theorem lm_s0 (z zo : ClassId) (m : Nat → Nat) (a : Nat → Nat → Nat) (h : Nat → Hp) : ∀ q ∈ stW z (a 0) (h 0), q ∈ lmW z zo m a h := fun q hq => (lm_g0 z zo m a h).mem_iff.mpr (List.mem_append_left _ hq)
def lmR1 (z zo : ClassId) (m : Nat → Nat) (a : Nat → Nat → Nat) (h : Nat → Hp) : va_W := (m 0, .inr (6, [.ref (a 0 0), .ref (a 1 0), .ref (a 2 0), .ref (m 3), .ref (m 1), .int (h 8 0 5), .int (h 8 0 6), .int (h 8 0 7), .int (h 8 0 8)])) :: (pdW z (lm_sh 1 m) (lm_sh 1 (h 8)) ++ (m 3, .inr (1, [.ref (m 4), .int (h 8 3 1), .int (h 8 3 2)])) :: (m 4, .inl (zo, 5, .inr (.inr (.inr (.inr (fun i => some (a (3 + i) 0))))))) :: (stW z (a 0) (h 0) ++ (stW z (a 2) (h 2) ++ (stW z (a 3) (h 3) ++ (stW z (a 4) (h 4) ++ (stW z (a 5) (h 5) ++ (stW z (a 6) (h 6) ++ (stW z (a 7) (h 7) ++ []))))))))
theorem lm_g1 (z zo : ClassId) (m : Nat → Nat) (a : Nat → Nat → Nat) (h : Nat → Hp) : (lmW z zo m a h).Perm (stW z (a 1) (h 1) ++ lmR1 z zo m a h) := by
  refine lm_cnt fun f g h1 h2 h3 => ?_
  simp only [lmW, lmR1, h1, h2, h3]
  omega
theorem lm_p1 (z zo : ClassId) (m : Nat → Nat) (a : Nat → Nat → Nat) (h : Nat → Hp) (τ : Hp) : (stW z (a 1) τ ++ lmR1 z zo m a h).Perm (lmW z zo m a (lm_uB h 1 τ)) := by
  have e : lmW z zo m a (lm_uB h 1 τ) = (m 0, .inr (6, [.ref (a 0 0), .ref (a 1 0), .ref (a 2 0), .ref (m 3), .ref (m 1), .int (h 8 0 5), .int (h 8 0 6), .int (h 8 0 7), .int (h 8 0 8)])) :: (pdW z (lm_sh 1 m) (lm_sh 1 (h 8)) ++ (m 3, .inr (1, [.ref (m 4), .int (h 8 3 1), .int (h 8 3 2)])) :: (m 4, .inl (zo, 5, .inr (.inr (.inr (.inr (fun i => some (a (3 + i) 0))))))) :: (stW z (a 0) (h 0) ++ (stW z (a 1) τ ++ (stW z (a 2) (h 2) ++ (stW z (a 3) (h 3) ++ (stW z (a 4) (h 4) ++ (stW z (a 5) (h 5) ++ (stW z (a 6) (h 6) ++ (stW z (a 7) (h 7) ++ []))))))))) := rfl
  rw [e]
  refine lm_cnt fun f g h1 h2 h3 => ?_
  simp only [lmR1, h1, h2, h3]
  omega
theorem lm_s1 (z zo : ClassId) (m : Nat → Nat) (a : Nat → Nat → Nat) (h : Nat → Hp) : ∀ q ∈ stW z (a 1) (h 1), q ∈ lmW z zo m a h := fun q hq => (lm_g1 z zo m a h).mem_iff.mpr (List.mem_append_left _ hq)
def lmR2 (z zo : ClassId) (m : Nat → Nat) (a : Nat → Nat → Nat) (h : Nat → Hp) : va_W := (m 0, .inr (6, [.ref (a 0 0), .ref (a 1 0), .ref (a 2 0), .ref (m 3), .ref (m 1), .int (h 8 0 5), .int (h 8 0 6), .int (h 8 0 7), .int (h 8 0 8)])) :: (pdW z (lm_sh 1 m) (lm_sh 1 (h 8)) ++ (m 3, .inr (1, [.ref (m 4), .int (h 8 3 1), .int (h 8 3 2)])) :: (m 4, .inl (zo, 5, .inr (.inr (.inr (.inr (fun i => some (a (3 + i) 0))))))) :: (stW z (a 0) (h 0) ++ (stW z (a 1) (h 1) ++ (stW z (a 3) (h 3) ++ (stW z (a 4) (h 4) ++ (stW z (a 5) (h 5) ++ (stW z (a 6) (h 6) ++ (stW z (a 7) (h 7) ++ []))))))))
theorem lm_g2 (z zo : ClassId) (m : Nat → Nat) (a : Nat → Nat → Nat) (h : Nat → Hp) : (lmW z zo m a h).Perm (stW z (a 2) (h 2) ++ lmR2 z zo m a h) := by
  refine lm_cnt fun f g h1 h2 h3 => ?_
  simp only [lmW, lmR2, h1, h2, h3]
  omega
theorem lm_p2 (z zo : ClassId) (m : Nat → Nat) (a : Nat → Nat → Nat) (h : Nat → Hp) (τ : Hp) : (stW z (a 2) τ ++ lmR2 z zo m a h).Perm (lmW z zo m a (lm_uB h 2 τ)) := by
  have e : lmW z zo m a (lm_uB h 2 τ) = (m 0, .inr (6, [.ref (a 0 0), .ref (a 1 0), .ref (a 2 0), .ref (m 3), .ref (m 1), .int (h 8 0 5), .int (h 8 0 6), .int (h 8 0 7), .int (h 8 0 8)])) :: (pdW z (lm_sh 1 m) (lm_sh 1 (h 8)) ++ (m 3, .inr (1, [.ref (m 4), .int (h 8 3 1), .int (h 8 3 2)])) :: (m 4, .inl (zo, 5, .inr (.inr (.inr (.inr (fun i => some (a (3 + i) 0))))))) :: (stW z (a 0) (h 0) ++ (stW z (a 1) (h 1) ++ (stW z (a 2) τ ++ (stW z (a 3) (h 3) ++ (stW z (a 4) (h 4) ++ (stW z (a 5) (h 5) ++ (stW z (a 6) (h 6) ++ (stW z (a 7) (h 7) ++ []))))))))) := rfl
  rw [e]
  refine lm_cnt fun f g h1 h2 h3 => ?_
  simp only [lmR2, h1, h2, h3]
  omega
theorem lm_s2 (z zo : ClassId) (m : Nat → Nat) (a : Nat → Nat → Nat) (h : Nat → Hp) : ∀ q ∈ stW z (a 2) (h 2), q ∈ lmW z zo m a h := fun q hq => (lm_g2 z zo m a h).mem_iff.mpr (List.mem_append_left _ hq)
def lmR3 (z zo : ClassId) (m : Nat → Nat) (a : Nat → Nat → Nat) (h : Nat → Hp) : va_W := (m 0, .inr (6, [.ref (a 0 0), .ref (a 1 0), .ref (a 2 0), .ref (m 3), .ref (m 1), .int (h 8 0 5), .int (h 8 0 6), .int (h 8 0 7), .int (h 8 0 8)])) :: (pdW z (lm_sh 1 m) (lm_sh 1 (h 8)) ++ (m 3, .inr (1, [.ref (m 4), .int (h 8 3 1), .int (h 8 3 2)])) :: (m 4, .inl (zo, 5, .inr (.inr (.inr (.inr (fun i => some (a (3 + i) 0))))))) :: (stW z (a 0) (h 0) ++ (stW z (a 1) (h 1) ++ (stW z (a 2) (h 2) ++ (stW z (a 4) (h 4) ++ (stW z (a 5) (h 5) ++ (stW z (a 6) (h 6) ++ (stW z (a 7) (h 7) ++ []))))))))
theorem lm_g3 (z zo : ClassId) (m : Nat → Nat) (a : Nat → Nat → Nat) (h : Nat → Hp) : (lmW z zo m a h).Perm (stW z (a 3) (h 3) ++ lmR3 z zo m a h) := by
  refine lm_cnt fun f g h1 h2 h3 => ?_
  simp only [lmW, lmR3, h1, h2, h3]
  omega
theorem lm_p3 (z zo : ClassId) (m : Nat → Nat) (a : Nat → Nat → Nat) (h : Nat → Hp) (τ : Hp) : (stW z (a 3) τ ++ lmR3 z zo m a h).Perm (lmW z zo m a (lm_uB h 3 τ)) := by
  have e : lmW z zo m a (lm_uB h 3 τ) = (m 0, .inr (6, [.ref (a 0 0), .ref (a 1 0), .ref (a 2 0), .ref (m 3), .ref (m 1), .int (h 8 0 5), .int (h 8 0 6), .int (h 8 0 7), .int (h 8 0 8)])) :: (pdW z (lm_sh 1 m) (lm_sh 1 (h 8)) ++ (m 3, .inr (1, [.ref (m 4), .int (h 8 3 1), .int (h 8 3 2)])) :: (m 4, .inl (zo, 5, .inr (.inr (.inr (.inr (fun i => some (a (3 + i) 0))))))) :: (stW z (a 0) (h 0) ++ (stW z (a 1) (h 1) ++ (stW z (a 2) (h 2) ++ (stW z (a 3) τ ++ (stW z (a 4) (h 4) ++ (stW z (a 5) (h 5) ++ (stW z (a 6) (h 6) ++ (stW z (a 7) (h 7) ++ []))))))))) := rfl
  rw [e]
  refine lm_cnt fun f g h1 h2 h3 => ?_
  simp only [lmR3, h1, h2, h3]
  omega
theorem lm_s3 (z zo : ClassId) (m : Nat → Nat) (a : Nat → Nat → Nat) (h : Nat → Hp) : ∀ q ∈ stW z (a 3) (h 3), q ∈ lmW z zo m a h := fun q hq => (lm_g3 z zo m a h).mem_iff.mpr (List.mem_append_left _ hq)
def lmR4 (z zo : ClassId) (m : Nat → Nat) (a : Nat → Nat → Nat) (h : Nat → Hp) : va_W := (m 0, .inr (6, [.ref (a 0 0), .ref (a 1 0), .ref (a 2 0), .ref (m 3), .ref (m 1), .int (h 8 0 5), .int (h 8 0 6), .int (h 8 0 7), .int (h 8 0 8)])) :: (pdW z (lm_sh 1 m) (lm_sh 1 (h 8)) ++ (m 3, .inr (1, [.ref (m 4), .int (h 8 3 1), .int (h 8 3 2)])) :: (m 4, .inl (zo, 5, .inr (.inr (.inr (.inr (fun i => some (a (3 + i) 0))))))) :: (stW z (a 0) (h 0) ++ (stW z (a 1) (h 1) ++ (stW z (a 2) (h 2) ++ (stW z (a 3) (h 3) ++ (stW z (a 5) (h 5) ++ (stW z (a 6) (h 6) ++ (stW z (a 7) (h 7) ++ []))))))))
theorem lm_g4 (z zo : ClassId) (m : Nat → Nat) (a : Nat → Nat → Nat) (h : Nat → Hp) : (lmW z zo m a h).Perm (stW z (a 4) (h 4) ++ lmR4 z zo m a h) := by
  refine lm_cnt fun f g h1 h2 h3 => ?_
  simp only [lmW, lmR4, h1, h2, h3]
  omega
theorem lm_p4 (z zo : ClassId) (m : Nat → Nat) (a : Nat → Nat → Nat) (h : Nat → Hp) (τ : Hp) : (stW z (a 4) τ ++ lmR4 z zo m a h).Perm (lmW z zo m a (lm_uB h 4 τ)) := by
  have e : lmW z zo m a (lm_uB h 4 τ) = (m 0, .inr (6, [.ref (a 0 0), .ref (a 1 0), .ref (a 2 0), .ref (m 3), .ref (m 1), .int (h 8 0 5), .int (h 8 0 6), .int (h 8 0 7), .int (h 8 0 8)])) :: (pdW z (lm_sh 1 m) (lm_sh 1 (h 8)) ++ (m 3, .inr (1, [.ref (m 4), .int (h 8 3 1), .int (h 8 3 2)])) :: (m 4, .inl (zo, 5, .inr (.inr (.inr (.inr (fun i => some (a (3 + i) 0))))))) :: (stW z (a 0) (h 0) ++ (stW z (a 1) (h 1) ++ (stW z (a 2) (h 2) ++ (stW z (a 3) (h 3) ++ (stW z (a 4) τ ++ (stW z (a 5) (h 5) ++ (stW z (a 6) (h 6) ++ (stW z (a 7) (h 7) ++ []))))))))) := rfl
  rw [e]
  refine lm_cnt fun f g h1 h2 h3 => ?_
  simp only [lmR4, h1, h2, h3]
  omega
theorem lm_s4 (z zo : ClassId) (m : Nat → Nat) (a : Nat → Nat → Nat) (h : Nat → Hp) : ∀ q ∈ stW z (a 4) (h 4), q ∈ lmW z zo m a h := fun q hq => (lm_g4 z zo m a h).mem_iff.mpr (List.mem_append_left _ hq)
def lmR5 (z zo : ClassId) (m : Nat → Nat) (a : Nat → Nat → Nat) (h : Nat → Hp) : va_W := (m 0, .inr (6, [.ref (a 0 0), .ref (a 1 0), .ref (a 2 0), .ref (m 3), .ref (m 1), .int (h 8 0 5), .int (h 8 0 6), .int (h 8 0 7), .int (h 8 0 8)])) :: (pdW z (lm_sh 1 m) (lm_sh 1 (h 8)) ++ (m 3, .inr (1, [.ref (m 4), .int (h 8 3 1), .int (h 8 3 2)])) :: (m 4, .inl (zo, 5, .inr (.inr (.inr (.inr (fun i => some (a (3 + i) 0))))))) :: (stW z (a 0) (h 0) ++ (stW z (a 1) (h 1) ++ (stW z (a 2) (h 2) ++ (stW z (a 3) (h 3) ++ (stW z (a 4) (h 4) ++ (stW z (a 6) (h 6) ++ (stW z (a 7) (h 7) ++ []))))))))
theorem lm_g5 (z zo : ClassId) (m : Nat → Nat) (a : Nat → Nat → Nat) (h : Nat → Hp) : (lmW z zo m a h).Perm (stW z (a 5) (h 5) ++ lmR5 z zo m a h) := by
  refine lm_cnt fun f g h1 h2 h3 => ?_
  simp only [lmW, lmR5, h1, h2, h3]
  omega
theorem lm_p5 (z zo : ClassId) (m : Nat → Nat) (a : Nat → Nat → Nat) (h : Nat → Hp) (τ : Hp) : (stW z (a 5) τ ++ lmR5 z zo m a h).Perm (lmW z zo m a (lm_uB h 5 τ)) := by
  have e : lmW z zo m a (lm_uB h 5 τ) = (m 0, .inr (6, [.ref (a 0 0), .ref (a 1 0), .ref (a 2 0), .ref (m 3), .ref (m 1), .int (h 8 0 5), .int (h 8 0 6), .int (h 8 0 7), .int (h 8 0 8)])) :: (pdW z (lm_sh 1 m) (lm_sh 1 (h 8)) ++ (m 3, .inr (1, [.ref (m 4), .int (h 8 3 1), .int (h 8 3 2)])) :: (m 4, .inl (zo, 5, .inr (.inr (.inr (.inr (fun i => some (a (3 + i) 0))))))) :: (stW z (a 0) (h 0) ++ (stW z (a 1) (h 1) ++ (stW z (a 2) (h 2) ++ (stW z (a 3) (h 3) ++ (stW z (a 4) (h 4) ++ (stW z (a 5) τ ++ (stW z (a 6) (h 6) ++ (stW z (a 7) (h 7) ++ []))))))))) := rfl
  rw [e]
  refine lm_cnt fun f g h1 h2 h3 => ?_
  simp only [lmR5, h1, h2, h3]
  omega
theorem lm_s5 (z zo : ClassId) (m : Nat → Nat) (a : Nat → Nat → Nat) (h : Nat → Hp) : ∀ q ∈ stW z (a 5) (h 5), q ∈ lmW z zo m a h := fun q hq => (lm_g5 z zo m a h).mem_iff.mpr (List.mem_append_left _ hq)
def lmR6 (z zo : ClassId) (m : Nat → Nat) (a : Nat → Nat → Nat) (h : Nat → Hp) : va_W := (m 0, .inr (6, [.ref (a 0 0), .ref (a 1 0), .ref (a 2 0), .ref (m 3), .ref (m 1), .int (h 8 0 5), .int (h 8 0 6), .int (h 8 0 7), .int (h 8 0 8)])) :: (pdW z (lm_sh 1 m) (lm_sh 1 (h 8)) ++ (m 3, .inr (1, [.ref (m 4), .int (h 8 3 1), .int (h 8 3 2)])) :: (m 4, .inl (zo, 5, .inr (.inr (.inr (.inr (fun i => some (a (3 + i) 0))))))) :: (stW z (a 0) (h 0) ++ (stW z (a 1) (h 1) ++ (stW z (a 2) (h 2) ++ (stW z (a 3) (h 3) ++ (stW z (a 4) (h 4) ++ (stW z (a 5) (h 5) ++ (stW z (a 7) (h 7) ++ []))))))))
theorem lm_g6 (z zo : ClassId) (m : Nat → Nat) (a : Nat → Nat → Nat) (h : Nat → Hp) : (lmW z zo m a h).Perm (stW z (a 6) (h 6) ++ lmR6 z zo m a h) := by
  refine lm_cnt fun f g h1 h2 h3 => ?_
  simp only [lmW, lmR6, h1, h2, h3]
  omega
theorem lm_p6 (z zo : ClassId) (m : Nat → Nat) (a : Nat → Nat → Nat) (h : Nat → Hp) (τ : Hp) : (stW z (a 6) τ ++ lmR6 z zo m a h).Perm (lmW z zo m a (lm_uB h 6 τ)) := by
  have e : lmW z zo m a (lm_uB h 6 τ) = (m 0, .inr (6, [.ref (a 0 0), .ref (a 1 0), .ref (a 2 0), .ref (m 3), .ref (m 1), .int (h 8 0 5), .int (h 8 0 6), .int (h 8 0 7), .int (h 8 0 8)])) :: (pdW z (lm_sh 1 m) (lm_sh 1 (h 8)) ++ (m 3, .inr (1, [.ref (m 4), .int (h 8 3 1), .int (h 8 3 2)])) :: (m 4, .inl (zo, 5, .inr (.inr (.inr (.inr (fun i => some (a (3 + i) 0))))))) :: (stW z (a 0) (h 0) ++ (stW z (a 1) (h 1) ++ (stW z (a 2) (h 2) ++ (stW z (a 3) (h 3) ++ (stW z (a 4) (h 4) ++ (stW z (a 5) (h 5) ++ (stW z (a 6) τ ++ (stW z (a 7) (h 7) ++ []))))))))) := rfl
  rw [e]
  refine lm_cnt fun f g h1 h2 h3 => ?_
  simp only [lmR6, h1, h2, h3]
  omega
theorem lm_s6 (z zo : ClassId) (m : Nat → Nat) (a : Nat → Nat → Nat) (h : Nat → Hp) : ∀ q ∈ stW z (a 6) (h 6), q ∈ lmW z zo m a h := fun q hq => (lm_g6 z zo m a h).mem_iff.mpr (List.mem_append_left _ hq)
def lmR7 (z zo : ClassId) (m : Nat → Nat) (a : Nat → Nat → Nat) (h : Nat → Hp) : va_W := (m 0, .inr (6, [.ref (a 0 0), .ref (a 1 0), .ref (a 2 0), .ref (m 3), .ref (m 1), .int (h 8 0 5), .int (h 8 0 6), .int (h 8 0 7), .int (h 8 0 8)])) :: (pdW z (lm_sh 1 m) (lm_sh 1 (h 8)) ++ (m 3, .inr (1, [.ref (m 4), .int (h 8 3 1), .int (h 8 3 2)])) :: (m 4, .inl (zo, 5, .inr (.inr (.inr (.inr (fun i => some (a (3 + i) 0))))))) :: (stW z (a 0) (h 0) ++ (stW z (a 1) (h 1) ++ (stW z (a 2) (h 2) ++ (stW z (a 3) (h 3) ++ (stW z (a 4) (h 4) ++ (stW z (a 5) (h 5) ++ (stW z (a 6) (h 6) ++ []))))))))
theorem lm_g7 (z zo : ClassId) (m : Nat → Nat) (a : Nat → Nat → Nat) (h : Nat → Hp) : (lmW z zo m a h).Perm (stW z (a 7) (h 7) ++ lmR7 z zo m a h) := by
  refine lm_cnt fun f g h1 h2 h3 => ?_
  simp only [lmW, lmR7, h1, h2, h3]
  omega
theorem lm_p7 (z zo : ClassId) (m : Nat → Nat) (a : Nat → Nat → Nat) (h : Nat → Hp) (τ : Hp) : (stW z (a 7) τ ++ lmR7 z zo m a h).Perm (lmW z zo m a (lm_uB h 7 τ)) := by
  have e : lmW z zo m a (lm_uB h 7 τ) = (m 0, .inr (6, [.ref (a 0 0), .ref (a 1 0), .ref (a 2 0), .ref (m 3), .ref (m 1), .int (h 8 0 5), .int (h 8 0 6), .int (h 8 0 7), .int (h 8 0 8)])) :: (pdW z (lm_sh 1 m) (lm_sh 1 (h 8)) ++ (m 3, .inr (1, [.ref (m 4), .int (h 8 3 1), .int (h 8 3 2)])) :: (m 4, .inl (zo, 5, .inr (.inr (.inr (.inr (fun i => some (a (3 + i) 0))))))) :: (stW z (a 0) (h 0) ++ (stW z (a 1) (h 1) ++ (stW z (a 2) (h 2) ++ (stW z (a 3) (h 3) ++ (stW z (a 4) (h 4) ++ (stW z (a 5) (h 5) ++ (stW z (a 6) (h 6) ++ (stW z (a 7) τ ++ []))))))))) := rfl
  rw [e]
  refine lm_cnt fun f g h1 h2 h3 => ?_
  simp only [lmR7, h1, h2, h3]
  omega
theorem lm_s7 (z zo : ClassId) (m : Nat → Nat) (a : Nat → Nat → Nat) (h : Nat → Hp) : ∀ q ∈ stW z (a 7) (h 7), q ∈ lmW z zo m a h := fun q hq => (lm_g7 z zo m a h).mem_iff.mpr (List.mem_append_left _ hq)
def lmRP (z zo : ClassId) (m : Nat → Nat) (a : Nat → Nat → Nat) (h : Nat → Hp) : va_W := (m 0, .inr (6, [.ref (a 0 0), .ref (a 1 0), .ref (a 2 0), .ref (m 3), .ref (m 1), .int (h 8 0 5), .int (h 8 0 6), .int (h 8 0 7), .int (h 8 0 8)])) :: ((m 3, .inr (1, [.ref (m 4), .int (h 8 3 1), .int (h 8 3 2)])) :: (m 4, .inl (zo, 5, .inr (.inr (.inr (.inr (fun i => some (a (3 + i) 0))))))) :: (stW z (a 0) (h 0) ++ (stW z (a 1) (h 1) ++ (stW z (a 2) (h 2) ++ (stW z (a 3) (h 3) ++ (stW z (a 4) (h 4) ++ (stW z (a 5) (h 5) ++ (stW z (a 6) (h 6) ++ (stW z (a 7) (h 7) ++ [])))))))))
theorem lm_gP (z zo : ClassId) (m : Nat → Nat) (a : Nat → Nat → Nat) (h : Nat → Hp) : (lmW z zo m a h).Perm (pdW z (lm_sh 1 m) (lm_sh 1 (h 8)) ++ lmRP z zo m a h) := by
  refine lm_cnt fun f g h1 h2 h3 => ?_
  simp only [lmW, lmRP, h1, h2, h3]
  omega
theorem lm_pP (z zo : ClassId) (m : Nat → Nat) (a : Nat → Nat → Nat) (h : Nat → Hp) (τ : Hp) : (pdW z (lm_sh 1 m) τ ++ lmRP z zo m a h).Perm (lmW z zo m a (lm_uB h 8 (lm_sb (h 8) 1 2 τ))) := by
  have e : lmW z zo m a (lm_uB h 8 (lm_sb (h 8) 1 2 τ)) = (m 0, .inr (6, [.ref (a 0 0), .ref (a 1 0), .ref (a 2 0), .ref (m 3), .ref (m 1), .int (h 8 0 5), .int (h 8 0 6), .int (h 8 0 7), .int (h 8 0 8)])) :: (pdW z (lm_sh 1 m) τ ++ (m 3, .inr (1, [.ref (m 4), .int (h 8 3 1), .int (h 8 3 2)])) :: (m 4, .inl (zo, 5, .inr (.inr (.inr (.inr (fun i => some (a (3 + i) 0))))))) :: (stW z (a 0) (h 0) ++ (stW z (a 1) (h 1) ++ (stW z (a 2) (h 2) ++ (stW z (a 3) (h 3) ++ (stW z (a 4) (h 4) ++ (stW z (a 5) (h 5) ++ (stW z (a 6) (h 6) ++ (stW z (a 7) (h 7) ++ []))))))))) := rfl
  rw [e]
  refine lm_cnt fun f g h1 h2 h3 => ?_
  simp only [lmRP, h1, h2, h3]
  omega
theorem lm_sP (z zo : ClassId) (m : Nat → Nat) (a : Nat → Nat → Nat) (h : Nat → Hp) : ∀ q ∈ pdW z (lm_sh 1 m) (lm_sh 1 (h 8)), q ∈ lmW z zo m a h := fun q hq => (lm_gP z zo m a h).mem_iff.mpr (List.mem_append_left _ hq)
def lmR1_0 (z zo : ClassId) (m : Nat → Nat) (a : Nat → Nat → Nat) (h : Nat → Hp) : va_W := (m 0, .inr (6, [.ref (a 0 0), .ref (a 1 0), .ref (a 2 0), .ref (m 3), .ref (m 1), .int (h 8 0 5), .int (h 8 0 6), .int (h 8 0 7), .int (h 8 0 8)])) :: (pdW z (lm_sh 1 m) (lm_sh 1 (h 8)) ++ (m 3, .inr (1, [.ref (m 4), .int (h 8 3 1), .int (h 8 3 2)])) :: (m 4, .inl (zo, 5, .inr (.inr (.inr (.inr (fun i => some (a (3 + i) 0))))))) :: (stW z (a 2) (h 2) ++ (stW z (a 3) (h 3) ++ (stW z (a 4) (h 4) ++ (stW z (a 5) (h 5) ++ (stW z (a 6) (h 6) ++ (stW z (a 7) (h 7) ++ [])))))))
theorem lm_g1_0 (z zo : ClassId) (m : Nat → Nat) (a : Nat → Nat → Nat) (h : Nat → Hp) : (lmW z zo m a h).Perm ((stW z (a 1) (h 1) ++ stW z (a 0) (h 0)) ++ lmR1_0 z zo m a h) := by
  refine lm_cnt fun f g h1 h2 h3 => ?_
  simp only [lmW, lmR1_0, h1, h2, h3]
  omega
theorem lm_p1_0 (z zo : ClassId) (m : Nat → Nat) (a : Nat → Nat → Nat) (h : Nat → Hp) (τ : Hp) : ((stW z (a 1) τ ++ stW z (a 0) (h 0)) ++ lmR1_0 z zo m a h).Perm (lmW z zo m a (lm_uB h 1 τ)) := by
  have e : lmW z zo m a (lm_uB h 1 τ) = (m 0, .inr (6, [.ref (a 0 0), .ref (a 1 0), .ref (a 2 0), .ref (m 3), .ref (m 1), .int (h 8 0 5), .int (h 8 0 6), .int (h 8 0 7), .int (h 8 0 8)])) :: (pdW z (lm_sh 1 m) (lm_sh 1 (h 8)) ++ (m 3, .inr (1, [.ref (m 4), .int (h 8 3 1), .int (h 8 3 2)])) :: (m 4, .inl (zo, 5, .inr (.inr (.inr (.inr (fun i => some (a (3 + i) 0))))))) :: (stW z (a 0) (h 0) ++ (stW z (a 1) τ ++ (stW z (a 2) (h 2) ++ (stW z (a 3) (h 3) ++ (stW z (a 4) (h 4) ++ (stW z (a 5) (h 5) ++ (stW z (a 6) (h 6) ++ (stW z (a 7) (h 7) ++ []))))))))) := rfl
  rw [e]
  refine lm_cnt fun f g h1 h2 h3 => ?_
  simp only [lmR1_0, h1, h2, h3]
  omega
def lmR2_0 (z zo : ClassId) (m : Nat → Nat) (a : Nat → Nat → Nat) (h : Nat → Hp) : va_W := (m 0, .inr (6, [.ref (a 0 0), .ref (a 1 0), .ref (a 2 0), .ref (m 3), .ref (m 1), .int (h 8 0 5), .int (h 8 0 6), .int (h 8 0 7), .int (h 8 0 8)])) :: (pdW z (lm_sh 1 m) (lm_sh 1 (h 8)) ++ (m 3, .inr (1, [.ref (m 4), .int (h 8 3 1), .int (h 8 3 2)])) :: (m 4, .inl (zo, 5, .inr (.inr (.inr (.inr (fun i => some (a (3 + i) 0))))))) :: (stW z (a 1) (h 1) ++ (stW z (a 3) (h 3) ++ (stW z (a 4) (h 4) ++ (stW z (a 5) (h 5) ++ (stW z (a 6) (h 6) ++ (stW z (a 7) (h 7) ++ [])))))))
theorem lm_g2_0 (z zo : ClassId) (m : Nat → Nat) (a : Nat → Nat → Nat) (h : Nat → Hp) : (lmW z zo m a h).Perm ((stW z (a 2) (h 2) ++ stW z (a 0) (h 0)) ++ lmR2_0 z zo m a h) := by
  refine lm_cnt fun f g h1 h2 h3 => ?_
  simp only [lmW, lmR2_0, h1, h2, h3]
  omega
theorem lm_p2_0 (z zo : ClassId) (m : Nat → Nat) (a : Nat → Nat → Nat) (h : Nat → Hp) (τ : Hp) : ((stW z (a 2) τ ++ stW z (a 0) (h 0)) ++ lmR2_0 z zo m a h).Perm (lmW z zo m a (lm_uB h 2 τ)) := by
  have e : lmW z zo m a (lm_uB h 2 τ) = (m 0, .inr (6, [.ref (a 0 0), .ref (a 1 0), .ref (a 2 0), .ref (m 3), .ref (m 1), .int (h 8 0 5), .int (h 8 0 6), .int (h 8 0 7), .int (h 8 0 8)])) :: (pdW z (lm_sh 1 m) (lm_sh 1 (h 8)) ++ (m 3, .inr (1, [.ref (m 4), .int (h 8 3 1), .int (h 8 3 2)])) :: (m 4, .inl (zo, 5, .inr (.inr (.inr (.inr (fun i => some (a (3 + i) 0))))))) :: (stW z (a 0) (h 0) ++ (stW z (a 1) (h 1) ++ (stW z (a 2) τ ++ (stW z (a 3) (h 3) ++ (stW z (a 4) (h 4) ++ (stW z (a 5) (h 5) ++ (stW z (a 6) (h 6) ++ (stW z (a 7) (h 7) ++ []))))))))) := rfl
  rw [e]
  refine lm_cnt fun f g h1 h2 h3 => ?_
  simp only [lmR2_0, h1, h2, h3]
  omega
def lmR0_2 (z zo : ClassId) (m : Nat → Nat) (a : Nat → Nat → Nat) (h : Nat → Hp) : va_W := (m 0, .inr (6, [.ref (a 0 0), .ref (a 1 0), .ref (a 2 0), .ref (m 3), .ref (m 1), .int (h 8 0 5), .int (h 8 0 6), .int (h 8 0 7), .int (h 8 0 8)])) :: (pdW z (lm_sh 1 m) (lm_sh 1 (h 8)) ++ (m 3, .inr (1, [.ref (m 4), .int (h 8 3 1), .int (h 8 3 2)])) :: (m 4, .inl (zo, 5, .inr (.inr (.inr (.inr (fun i => some (a (3 + i) 0))))))) :: (stW z (a 1) (h 1) ++ (stW z (a 3) (h 3) ++ (stW z (a 4) (h 4) ++ (stW z (a 5) (h 5) ++ (stW z (a 6) (h 6) ++ (stW z (a 7) (h 7) ++ [])))))))
theorem lm_g0_2 (z zo : ClassId) (m : Nat → Nat) (a : Nat → Nat → Nat) (h : Nat → Hp) : (lmW z zo m a h).Perm ((stW z (a 0) (h 0) ++ stW z (a 2) (h 2)) ++ lmR0_2 z zo m a h) := by
  refine lm_cnt fun f g h1 h2 h3 => ?_
  simp only [lmW, lmR0_2, h1, h2, h3]
  omega
theorem lm_p0_2 (z zo : ClassId) (m : Nat → Nat) (a : Nat → Nat → Nat) (h : Nat → Hp) (τ : Hp) : ((stW z (a 0) τ ++ stW z (a 2) (h 2)) ++ lmR0_2 z zo m a h).Perm (lmW z zo m a (lm_uB h 0 τ)) := by
  have e : lmW z zo m a (lm_uB h 0 τ) = (m 0, .inr (6, [.ref (a 0 0), .ref (a 1 0), .ref (a 2 0), .ref (m 3), .ref (m 1), .int (h 8 0 5), .int (h 8 0 6), .int (h 8 0 7), .int (h 8 0 8)])) :: (pdW z (lm_sh 1 m) (lm_sh 1 (h 8)) ++ (m 3, .inr (1, [.ref (m 4), .int (h 8 3 1), .int (h 8 3 2)])) :: (m 4, .inl (zo, 5, .inr (.inr (.inr (.inr (fun i => some (a (3 + i) 0))))))) :: (stW z (a 0) τ ++ (stW z (a 1) (h 1) ++ (stW z (a 2) (h 2) ++ (stW z (a 3) (h 3) ++ (stW z (a 4) (h 4) ++ (stW z (a 5) (h 5) ++ (stW z (a 6) (h 6) ++ (stW z (a 7) (h 7) ++ []))))))))) := rfl
  rw [e]
  refine lm_cnt fun f g h1 h2 h3 => ?_
  simp only [lmR0_2, h1, h2, h3]
  omega
def lmR3_0 (z zo : ClassId) (m : Nat → Nat) (a : Nat → Nat → Nat) (h : Nat → Hp) : va_W := (m 0, .inr (6, [.ref (a 0 0), .ref (a 1 0), .ref (a 2 0), .ref (m 3), .ref (m 1), .int (h 8 0 5), .int (h 8 0 6), .int (h 8 0 7), .int (h 8 0 8)])) :: (pdW z (lm_sh 1 m) (lm_sh 1 (h 8)) ++ (m 3, .inr (1, [.ref (m 4), .int (h 8 3 1), .int (h 8 3 2)])) :: (m 4, .inl (zo, 5, .inr (.inr (.inr (.inr (fun i => some (a (3 + i) 0))))))) :: (stW z (a 1) (h 1) ++ (stW z (a 2) (h 2) ++ (stW z (a 4) (h 4) ++ (stW z (a 5) (h 5) ++ (stW z (a 6) (h 6) ++ (stW z (a 7) (h 7) ++ [])))))))
theorem lm_g3_0 (z zo : ClassId) (m : Nat → Nat) (a : Nat → Nat → Nat) (h : Nat → Hp) : (lmW z zo m a h).Perm ((stW z (a 3) (h 3) ++ stW z (a 0) (h 0)) ++ lmR3_0 z zo m a h) := by
  refine lm_cnt fun f g h1 h2 h3 => ?_
  simp only [lmW, lmR3_0, h1, h2, h3]
  omega
theorem lm_p3_0 (z zo : ClassId) (m : Nat → Nat) (a : Nat → Nat → Nat) (h : Nat → Hp) (τ : Hp) : ((stW z (a 3) τ ++ stW z (a 0) (h 0)) ++ lmR3_0 z zo m a h).Perm (lmW z zo m a (lm_uB h 3 τ)) := by
  have e : lmW z zo m a (lm_uB h 3 τ) = (m 0, .inr (6, [.ref (a 0 0), .ref (a 1 0), .ref (a 2 0), .ref (m 3), .ref (m 1), .int (h 8 0 5), .int (h 8 0 6), .int (h 8 0 7), .int (h 8 0 8)])) :: (pdW z (lm_sh 1 m) (lm_sh 1 (h 8)) ++ (m 3, .inr (1, [.ref (m 4), .int (h 8 3 1), .int (h 8 3 2)])) :: (m 4, .inl (zo, 5, .inr (.inr (.inr (.inr (fun i => some (a (3 + i) 0))))))) :: (stW z (a 0) (h 0) ++ (stW z (a 1) (h 1) ++ (stW z (a 2) (h 2) ++ (stW z (a 3) τ ++ (stW z (a 4) (h 4) ++ (stW z (a 5) (h 5) ++ (stW z (a 6) (h 6) ++ (stW z (a 7) (h 7) ++ []))))))))) := rfl
  rw [e]
  refine lm_cnt fun f g h1 h2 h3 => ?_
  simp only [lmR3_0, h1, h2, h3]
  omega
def lmR4_0 (z zo : ClassId) (m : Nat → Nat) (a : Nat → Nat → Nat) (h : Nat → Hp) : va_W := (m 0, .inr (6, [.ref (a 0 0), .ref (a 1 0), .ref (a 2 0), .ref (m 3), .ref (m 1), .int (h 8 0 5), .int (h 8 0 6), .int (h 8 0 7), .int (h 8 0 8)])) :: (pdW z (lm_sh 1 m) (lm_sh 1 (h 8)) ++ (m 3, .inr (1, [.ref (m 4), .int (h 8 3 1), .int (h 8 3 2)])) :: (m 4, .inl (zo, 5, .inr (.inr (.inr (.inr (fun i => some (a (3 + i) 0))))))) :: (stW z (a 1) (h 1) ++ (stW z (a 2) (h 2) ++ (stW z (a 3) (h 3) ++ (stW z (a 5) (h 5) ++ (stW z (a 6) (h 6) ++ (stW z (a 7) (h 7) ++ [])))))))
theorem lm_g4_0 (z zo : ClassId) (m : Nat → Nat) (a : Nat → Nat → Nat) (h : Nat → Hp) : (lmW z zo m a h).Perm ((stW z (a 4) (h 4) ++ stW z (a 0) (h 0)) ++ lmR4_0 z zo m a h) := by
  refine lm_cnt fun f g h1 h2 h3 => ?_
  simp only [lmW, lmR4_0, h1, h2, h3]
  omega
theorem lm_p4_0 (z zo : ClassId) (m : Nat → Nat) (a : Nat → Nat → Nat) (h : Nat → Hp) (τ : Hp) : ((stW z (a 4) τ ++ stW z (a 0) (h 0)) ++ lmR4_0 z zo m a h).Perm (lmW z zo m a (lm_uB h 4 τ)) := by
  have e : lmW z zo m a (lm_uB h 4 τ) = (m 0, .inr (6, [.ref (a 0 0), .ref (a 1 0), .ref (a 2 0), .ref (m 3), .ref (m 1), .int (h 8 0 5), .int (h 8 0 6), .int (h 8 0 7), .int (h 8 0 8)])) :: (pdW z (lm_sh 1 m) (lm_sh 1 (h 8)) ++ (m 3, .inr (1, [.ref (m 4), .int (h 8 3 1), .int (h 8 3 2)])) :: (m 4, .inl (zo, 5, .inr (.inr (.inr (.inr (fun i => some (a (3 + i) 0))))))) :: (stW z (a 0) (h 0) ++ (stW z (a 1) (h 1) ++ (stW z (a 2) (h 2) ++ (stW z (a 3) (h 3) ++ (stW z (a 4) τ ++ (stW z (a 5) (h 5) ++ (stW z (a 6) (h 6) ++ (stW z (a 7) (h 7) ++ []))))))))) := rfl
  rw [e]
  refine lm_cnt fun f g h1 h2 h3 => ?_
  simp only [lmR4_0, h1, h2, h3]
  omega
def lmR5_0 (z zo : ClassId) (m : Nat → Nat) (a : Nat → Nat → Nat) (h : Nat → Hp) : va_W := (m 0, .inr (6, [.ref (a 0 0), .ref (a 1 0), .ref (a 2 0), .ref (m 3), .ref (m 1), .int (h 8 0 5), .int (h 8 0 6), .int (h 8 0 7), .int (h 8 0 8)])) :: (pdW z (lm_sh 1 m) (lm_sh 1 (h 8)) ++ (m 3, .inr (1, [.ref (m 4), .int (h 8 3 1), .int (h 8 3 2)])) :: (m 4, .inl (zo, 5, .inr (.inr (.inr (.inr (fun i => some (a (3 + i) 0))))))) :: (stW z (a 1) (h 1) ++ (stW z (a 2) (h 2) ++ (stW z (a 3) (h 3) ++ (stW z (a 4) (h 4) ++ (stW z (a 6) (h 6) ++ (stW z (a 7) (h 7) ++ [])))))))
theorem lm_g5_0 (z zo : ClassId) (m : Nat → Nat) (a : Nat → Nat → Nat) (h : Nat → Hp) : (lmW z zo m a h).Perm ((stW z (a 5) (h 5) ++ stW z (a 0) (h 0)) ++ lmR5_0 z zo m a h) := by
  refine lm_cnt fun f g h1 h2 h3 => ?_
  simp only [lmW, lmR5_0, h1, h2, h3]
  omega
theorem lm_p5_0 (z zo : ClassId) (m : Nat → Nat) (a : Nat → Nat → Nat) (h : Nat → Hp) (τ : Hp) : ((stW z (a 5) τ ++ stW z (a 0) (h 0)) ++ lmR5_0 z zo m a h).Perm (lmW z zo m a (lm_uB h 5 τ)) := by
  have e : lmW z zo m a (lm_uB h 5 τ) = (m 0, .inr (6, [.ref (a 0 0), .ref (a 1 0), .ref (a 2 0), .ref (m 3), .ref (m 1), .int (h 8 0 5), .int (h 8 0 6), .int (h 8 0 7), .int (h 8 0 8)])) :: (pdW z (lm_sh 1 m) (lm_sh 1 (h 8)) ++ (m 3, .inr (1, [.ref (m 4), .int (h 8 3 1), .int (h 8 3 2)])) :: (m 4, .inl (zo, 5, .inr (.inr (.inr (.inr (fun i => some (a (3 + i) 0))))))) :: (stW z (a 0) (h 0) ++ (stW z (a 1) (h 1) ++ (stW z (a 2) (h 2) ++ (stW z (a 3) (h 3) ++ (stW z (a 4) (h 4) ++ (stW z (a 5) τ ++ (stW z (a 6) (h 6) ++ (stW z (a 7) (h 7) ++ []))))))))) := rfl
  rw [e]
  refine lm_cnt fun f g h1 h2 h3 => ?_
  simp only [lmR5_0, h1, h2, h3]
  omega
def lmR6_0 (z zo : ClassId) (m : Nat → Nat) (a : Nat → Nat → Nat) (h : Nat → Hp) : va_W := (m 0, .inr (6, [.ref (a 0 0), .ref (a 1 0), .ref (a 2 0), .ref (m 3), .ref (m 1), .int (h 8 0 5), .int (h 8 0 6), .int (h 8 0 7), .int (h 8 0 8)])) :: (pdW z (lm_sh 1 m) (lm_sh 1 (h 8)) ++ (m 3, .inr (1, [.ref (m 4), .int (h 8 3 1), .int (h 8 3 2)])) :: (m 4, .inl (zo, 5, .inr (.inr (.inr (.inr (fun i => some (a (3 + i) 0))))))) :: (stW z (a 1) (h 1) ++ (stW z (a 2) (h 2) ++ (stW z (a 3) (h 3) ++ (stW z (a 4) (h 4) ++ (stW z (a 5) (h 5) ++ (stW z (a 7) (h 7) ++ [])))))))
theorem lm_g6_0 (z zo : ClassId) (m : Nat → Nat) (a : Nat → Nat → Nat) (h : Nat → Hp) : (lmW z zo m a h).Perm ((stW z (a 6) (h 6) ++ stW z (a 0) (h 0)) ++ lmR6_0 z zo m a h) := by
  refine lm_cnt fun f g h1 h2 h3 => ?_
  simp only [lmW, lmR6_0, h1, h2, h3]
  omega
theorem lm_p6_0 (z zo : ClassId) (m : Nat → Nat) (a : Nat → Nat → Nat) (h : Nat → Hp) (τ : Hp) : ((stW z (a 6) τ ++ stW z (a 0) (h 0)) ++ lmR6_0 z zo m a h).Perm (lmW z zo m a (lm_uB h 6 τ)) := by
  have e : lmW z zo m a (lm_uB h 6 τ) = (m 0, .inr (6, [.ref (a 0 0), .ref (a 1 0), .ref (a 2 0), .ref (m 3), .ref (m 1), .int (h 8 0 5), .int (h 8 0 6), .int (h 8 0 7), .int (h 8 0 8)])) :: (pdW z (lm_sh 1 m) (lm_sh 1 (h 8)) ++ (m 3, .inr (1, [.ref (m 4), .int (h 8 3 1), .int (h 8 3 2)])) :: (m 4, .inl (zo, 5, .inr (.inr (.inr (.inr (fun i => some (a (3 + i) 0))))))) :: (stW z (a 0) (h 0) ++ (stW z (a 1) (h 1) ++ (stW z (a 2) (h 2) ++ (stW z (a 3) (h 3) ++ (stW z (a 4) (h 4) ++ (stW z (a 5) (h 5) ++ (stW z (a 6) τ ++ (stW z (a 7) (h 7) ++ []))))))))) := rfl
  rw [e]
  refine lm_cnt fun f g h1 h2 h3 => ?_
  simp only [lmR6_0, h1, h2, h3]
  omega
def lmR7_0 (z zo : ClassId) (m : Nat → Nat) (a : Nat → Nat → Nat) (h : Nat → Hp) : va_W := (m 0, .inr (6, [.ref (a 0 0), .ref (a 1 0), .ref (a 2 0), .ref (m 3), .ref (m 1), .int (h 8 0 5), .int (h 8 0 6), .int (h 8 0 7), .int (h 8 0 8)])) :: (pdW z (lm_sh 1 m) (lm_sh 1 (h 8)) ++ (m 3, .inr (1, [.ref (m 4), .int (h 8 3 1), .int (h 8 3 2)])) :: (m 4, .inl (zo, 5, .inr (.inr (.inr (.inr (fun i => some (a (3 + i) 0))))))) :: (stW z (a 1) (h 1) ++ (stW z (a 2) (h 2) ++ (stW z (a 3) (h 3) ++ (stW z (a 4) (h 4) ++ (stW z (a 5) (h 5) ++ (stW z (a 6) (h 6) ++ [])))))))
theorem lm_g7_0 (z zo : ClassId) (m : Nat → Nat) (a : Nat → Nat → Nat) (h : Nat → Hp) : (lmW z zo m a h).Perm ((stW z (a 7) (h 7) ++ stW z (a 0) (h 0)) ++ lmR7_0 z zo m a h) := by
  refine lm_cnt fun f g h1 h2 h3 => ?_
  simp only [lmW, lmR7_0, h1, h2, h3]
  omega
theorem lm_p7_0 (z zo : ClassId) (m : Nat → Nat) (a : Nat → Nat → Nat) (h : Nat → Hp) (τ : Hp) : ((stW z (a 7) τ ++ stW z (a 0) (h 0)) ++ lmR7_0 z zo m a h).Perm (lmW z zo m a (lm_uB h 7 τ)) := by
  have e : lmW z zo m a (lm_uB h 7 τ) = (m 0, .inr (6, [.ref (a 0 0), .ref (a 1 0), .ref (a 2 0), .ref (m 3), .ref (m 1), .int (h 8 0 5), .int (h 8 0 6), .int (h 8 0 7), .int (h 8 0 8)])) :: (pdW z (lm_sh 1 m) (lm_sh 1 (h 8)) ++ (m 3, .inr (1, [.ref (m 4), .int (h 8 3 1), .int (h 8 3 2)])) :: (m 4, .inl (zo, 5, .inr (.inr (.inr (.inr (fun i => some (a (3 + i) 0))))))) :: (stW z (a 0) (h 0) ++ (stW z (a 1) (h 1) ++ (stW z (a 2) (h 2) ++ (stW z (a 3) (h 3) ++ (stW z (a 4) (h 4) ++ (stW z (a 5) (h 5) ++ (stW z (a 6) (h 6) ++ (stW z (a 7) τ ++ []))))))))) := rfl
  rw [e]
  refine lm_cnt fun f g h1 h2 h3 => ?_
  simp only [lmR7_0, h1, h2, h3]
  omega
def lmR0_3 (z zo : ClassId) (m : Nat → Nat) (a : Nat → Nat → Nat) (h : Nat → Hp) : va_W := (m 0, .inr (6, [.ref (a 0 0), .ref (a 1 0), .ref (a 2 0), .ref (m 3), .ref (m 1), .int (h 8 0 5), .int (h 8 0 6), .int (h 8 0 7), .int (h 8 0 8)])) :: (pdW z (lm_sh 1 m) (lm_sh 1 (h 8)) ++ (m 3, .inr (1, [.ref (m 4), .int (h 8 3 1), .int (h 8 3 2)])) :: (m 4, .inl (zo, 5, .inr (.inr (.inr (.inr (fun i => some (a (3 + i) 0))))))) :: (stW z (a 1) (h 1) ++ (stW z (a 2) (h 2) ++ (stW z (a 4) (h 4) ++ (stW z (a 5) (h 5) ++ (stW z (a 6) (h 6) ++ (stW z (a 7) (h 7) ++ [])))))))
theorem lm_g0_3 (z zo : ClassId) (m : Nat → Nat) (a : Nat → Nat → Nat) (h : Nat → Hp) : (lmW z zo m a h).Perm ((stW z (a 0) (h 0) ++ stW z (a 3) (h 3)) ++ lmR0_3 z zo m a h) := by
  refine lm_cnt fun f g h1 h2 h3 => ?_
  simp only [lmW, lmR0_3, h1, h2, h3]
  omega
theorem lm_p0_3 (z zo : ClassId) (m : Nat → Nat) (a : Nat → Nat → Nat) (h : Nat → Hp) (τ : Hp) : ((stW z (a 0) τ ++ stW z (a 3) (h 3)) ++ lmR0_3 z zo m a h).Perm (lmW z zo m a (lm_uB h 0 τ)) := by
  have e : lmW z zo m a (lm_uB h 0 τ) = (m 0, .inr (6, [.ref (a 0 0), .ref (a 1 0), .ref (a 2 0), .ref (m 3), .ref (m 1), .int (h 8 0 5), .int (h 8 0 6), .int (h 8 0 7), .int (h 8 0 8)])) :: (pdW z (lm_sh 1 m) (lm_sh 1 (h 8)) ++ (m 3, .inr (1, [.ref (m 4), .int (h 8 3 1), .int (h 8 3 2)])) :: (m 4, .inl (zo, 5, .inr (.inr (.inr (.inr (fun i => some (a (3 + i) 0))))))) :: (stW z (a 0) τ ++ (stW z (a 1) (h 1) ++ (stW z (a 2) (h 2) ++ (stW z (a 3) (h 3) ++ (stW z (a 4) (h 4) ++ (stW z (a 5) (h 5) ++ (stW z (a 6) (h 6) ++ (stW z (a 7) (h 7) ++ []))))))))) := rfl
  rw [e]
  refine lm_cnt fun f g h1 h2 h3 => ?_
  simp only [lmR0_3, h1, h2, h3]
  omega
def lmR0_4 (z zo : ClassId) (m : Nat → Nat) (a : Nat → Nat → Nat) (h : Nat → Hp) : va_W := (m 0, .inr (6, [.ref (a 0 0), .ref (a 1 0), .ref (a 2 0), .ref (m 3), .ref (m 1), .int (h 8 0 5), .int (h 8 0 6), .int (h 8 0 7), .int (h 8 0 8)])) :: (pdW z (lm_sh 1 m) (lm_sh 1 (h 8)) ++ (m 3, .inr (1, [.ref (m 4), .int (h 8 3 1), .int (h 8 3 2)])) :: (m 4, .inl (zo, 5, .inr (.inr (.inr (.inr (fun i => some (a (3 + i) 0))))))) :: (stW z (a 1) (h 1) ++ (stW z (a 2) (h 2) ++ (stW z (a 3) (h 3) ++ (stW z (a 5) (h 5) ++ (stW z (a 6) (h 6) ++ (stW z (a 7) (h 7) ++ [])))))))
theorem lm_g0_4 (z zo : ClassId) (m : Nat → Nat) (a : Nat → Nat → Nat) (h : Nat → Hp) : (lmW z zo m a h).Perm ((stW z (a 0) (h 0) ++ stW z (a 4) (h 4)) ++ lmR0_4 z zo m a h) := by
  refine lm_cnt fun f g h1 h2 h3 => ?_
  simp only [lmW, lmR0_4, h1, h2, h3]
  omega
theorem lm_p0_4 (z zo : ClassId) (m : Nat → Nat) (a : Nat → Nat → Nat) (h : Nat → Hp) (τ : Hp) : ((stW z (a 0) τ ++ stW z (a 4) (h 4)) ++ lmR0_4 z zo m a h).Perm (lmW z zo m a (lm_uB h 0 τ)) := by
  have e : lmW z zo m a (lm_uB h 0 τ) = (m 0, .inr (6, [.ref (a 0 0), .ref (a 1 0), .ref (a 2 0), .ref (m 3), .ref (m 1), .int (h 8 0 5), .int (h 8 0 6), .int (h 8 0 7), .int (h 8 0 8)])) :: (pdW z (lm_sh 1 m) (lm_sh 1 (h 8)) ++ (m 3, .inr (1, [.ref (m 4), .int (h 8 3 1), .int (h 8 3 2)])) :: (m 4, .inl (zo, 5, .inr (.inr (.inr (.inr (fun i => some (a (3 + i) 0))))))) :: (stW z (a 0) τ ++ (stW z (a 1) (h 1) ++ (stW z (a 2) (h 2) ++ (stW z (a 3) (h 3) ++ (stW z (a 4) (h 4) ++ (stW z (a 5) (h 5) ++ (stW z (a 6) (h 6) ++ (stW z (a 7) (h 7) ++ []))))))))) := rfl
  rw [e]
  refine lm_cnt fun f g h1 h2 h3 => ?_
  simp only [lmR0_4, h1, h2, h3]
  omega
def lmR0_5 (z zo : ClassId) (m : Nat → Nat) (a : Nat → Nat → Nat) (h : Nat → Hp) : va_W := (m 0, .inr (6, [.ref (a 0 0), .ref (a 1 0), .ref (a 2 0), .ref (m 3), .ref (m 1), .int (h 8 0 5), .int (h 8 0 6), .int (h 8 0 7), .int (h 8 0 8)])) :: (pdW z (lm_sh 1 m) (lm_sh 1 (h 8)) ++ (m 3, .inr (1, [.ref (m 4), .int (h 8 3 1), .int (h 8 3 2)])) :: (m 4, .inl (zo, 5, .inr (.inr (.inr (.inr (fun i => some (a (3 + i) 0))))))) :: (stW z (a 1) (h 1) ++ (stW z (a 2) (h 2) ++ (stW z (a 3) (h 3) ++ (stW z (a 4) (h 4) ++ (stW z (a 6) (h 6) ++ (stW z (a 7) (h 7) ++ [])))))))
theorem lm_g0_5 (z zo : ClassId) (m : Nat → Nat) (a : Nat → Nat → Nat) (h : Nat → Hp) : (lmW z zo m a h).Perm ((stW z (a 0) (h 0) ++ stW z (a 5) (h 5)) ++ lmR0_5 z zo m a h) := by
  refine lm_cnt fun f g h1 h2 h3 => ?_
  simp only [lmW, lmR0_5, h1, h2, h3]
  omega
theorem lm_p0_5 (z zo : ClassId) (m : Nat → Nat) (a : Nat → Nat → Nat) (h : Nat → Hp) (τ : Hp) : ((stW z (a 0) τ ++ stW z (a 5) (h 5)) ++ lmR0_5 z zo m a h).Perm (lmW z zo m a (lm_uB h 0 τ)) := by
  have e : lmW z zo m a (lm_uB h 0 τ) = (m 0, .inr (6, [.ref (a 0 0), .ref (a 1 0), .ref (a 2 0), .ref (m 3), .ref (m 1), .int (h 8 0 5), .int (h 8 0 6), .int (h 8 0 7), .int (h 8 0 8)])) :: (pdW z (lm_sh 1 m) (lm_sh 1 (h 8)) ++ (m 3, .inr (1, [.ref (m 4), .int (h 8 3 1), .int (h 8 3 2)])) :: (m 4, .inl (zo, 5, .inr (.inr (.inr (.inr (fun i => some (a (3 + i) 0))))))) :: (stW z (a 0) τ ++ (stW z (a 1) (h 1) ++ (stW z (a 2) (h 2) ++ (stW z (a 3) (h 3) ++ (stW z (a 4) (h 4) ++ (stW z (a 5) (h 5) ++ (stW z (a 6) (h 6) ++ (stW z (a 7) (h 7) ++ []))))))))) := rfl
  rw [e]
  refine lm_cnt fun f g h1 h2 h3 => ?_
  simp only [lmR0_5, h1, h2, h3]
  omega
def lmR0_6 (z zo : ClassId) (m : Nat → Nat) (a : Nat → Nat → Nat) (h : Nat → Hp) : va_W := (m 0, .inr (6, [.ref (a 0 0), .ref (a 1 0), .ref (a 2 0), .ref (m 3), .ref (m 1), .int (h 8 0 5), .int (h 8 0 6), .int (h 8 0 7), .int (h 8 0 8)])) :: (pdW z (lm_sh 1 m) (lm_sh 1 (h 8)) ++ (m 3, .inr (1, [.ref (m 4), .int (h 8 3 1), .int (h 8 3 2)])) :: (m 4, .inl (zo, 5, .inr (.inr (.inr (.inr (fun i => some (a (3 + i) 0))))))) :: (stW z (a 1) (h 1) ++ (stW z (a 2) (h 2) ++ (stW z (a 3) (h 3) ++ (stW z (a 4) (h 4) ++ (stW z (a 5) (h 5) ++ (stW z (a 7) (h 7) ++ [])))))))
theorem lm_g0_6 (z zo : ClassId) (m : Nat → Nat) (a : Nat → Nat → Nat) (h : Nat → Hp) : (lmW z zo m a h).Perm ((stW z (a 0) (h 0) ++ stW z (a 6) (h 6)) ++ lmR0_6 z zo m a h) := by
  refine lm_cnt fun f g h1 h2 h3 => ?_
  simp only [lmW, lmR0_6, h1, h2, h3]
  omega
theorem lm_p0_6 (z zo : ClassId) (m : Nat → Nat) (a : Nat → Nat → Nat) (h : Nat → Hp) (τ : Hp) : ((stW z (a 0) τ ++ stW z (a 6) (h 6)) ++ lmR0_6 z zo m a h).Perm (lmW z zo m a (lm_uB h 0 τ)) := by
  have e : lmW z zo m a (lm_uB h 0 τ) = (m 0, .inr (6, [.ref (a 0 0), .ref (a 1 0), .ref (a 2 0), .ref (m 3), .ref (m 1), .int (h 8 0 5), .int (h 8 0 6), .int (h 8 0 7), .int (h 8 0 8)])) :: (pdW z (lm_sh 1 m) (lm_sh 1 (h 8)) ++ (m 3, .inr (1, [.ref (m 4), .int (h 8 3 1), .int (h 8 3 2)])) :: (m 4, .inl (zo, 5, .inr (.inr (.inr (.inr (fun i => some (a (3 + i) 0))))))) :: (stW z (a 0) τ ++ (stW z (a 1) (h 1) ++ (stW z (a 2) (h 2) ++ (stW z (a 3) (h 3) ++ (stW z (a 4) (h 4) ++ (stW z (a 5) (h 5) ++ (stW z (a 6) (h 6) ++ (stW z (a 7) (h 7) ++ []))))))))) := rfl
  rw [e]
  refine lm_cnt fun f g h1 h2 h3 => ?_
  simp only [lmR0_6, h1, h2, h3]
  omega
def lmR0_7 (z zo : ClassId) (m : Nat → Nat) (a : Nat → Nat → Nat) (h : Nat → Hp) : va_W := (m 0, .inr (6, [.ref (a 0 0), .ref (a 1 0), .ref (a 2 0), .ref (m 3), .ref (m 1), .int (h 8 0 5), .int (h 8 0 6), .int (h 8 0 7), .int (h 8 0 8)])) :: (pdW z (lm_sh 1 m) (lm_sh 1 (h 8)) ++ (m 3, .inr (1, [.ref (m 4), .int (h 8 3 1), .int (h 8 3 2)])) :: (m 4, .inl (zo, 5, .inr (.inr (.inr (.inr (fun i => some (a (3 + i) 0))))))) :: (stW z (a 1) (h 1) ++ (stW z (a 2) (h 2) ++ (stW z (a 3) (h 3) ++ (stW z (a 4) (h 4) ++ (stW z (a 5) (h 5) ++ (stW z (a 6) (h 6) ++ [])))))))
theorem lm_g0_7 (z zo : ClassId) (m : Nat → Nat) (a : Nat → Nat → Nat) (h : Nat → Hp) : (lmW z zo m a h).Perm ((stW z (a 0) (h 0) ++ stW z (a 7) (h 7)) ++ lmR0_7 z zo m a h) := by
  refine lm_cnt fun f g h1 h2 h3 => ?_
  simp only [lmW, lmR0_7, h1, h2, h3]
  omega
theorem lm_p0_7 (z zo : ClassId) (m : Nat → Nat) (a : Nat → Nat → Nat) (h : Nat → Hp) (τ : Hp) : ((stW z (a 0) τ ++ stW z (a 7) (h 7)) ++ lmR0_7 z zo m a h).Perm (lmW z zo m a (lm_uB h 0 τ)) := by
  have e : lmW z zo m a (lm_uB h 0 τ) = (m 0, .inr (6, [.ref (a 0 0), .ref (a 1 0), .ref (a 2 0), .ref (m 3), .ref (m 1), .int (h 8 0 5), .int (h 8 0 6), .int (h 8 0 7), .int (h 8 0 8)])) :: (pdW z (lm_sh 1 m) (lm_sh 1 (h 8)) ++ (m 3, .inr (1, [.ref (m 4), .int (h 8 3 1), .int (h 8 3 2)])) :: (m 4, .inl (zo, 5, .inr (.inr (.inr (.inr (fun i => some (a (3 + i) 0))))))) :: (stW z (a 0) τ ++ (stW z (a 1) (h 1) ++ (stW z (a 2) (h 2) ++ (stW z (a 3) (h 3) ++ (stW z (a 4) (h 4) ++ (stW z (a 5) (h 5) ++ (stW z (a 6) (h 6) ++ (stW z (a 7) (h 7) ++ []))))))))) := rfl
  rw [e]
  refine lm_cnt fun f g h1 h2 h3 => ?_
  simp only [lmR0_7, h1, h2, h3]
  omega
theorem lm_pick {α : Type} : ∀ (w : List α) (i : Nat) (x : α), w[i]? = some x → w.Perm (x :: w.eraseIdx i)
  | [], i, x, h => by simp at h
  | y :: w, 0, x, h => by
    simp at h
    subst h
    exact List.Perm.refl _
  | y :: w, i + 1, x, h => by
    rw [List.getElem?_cons_succ] at h
    rw [List.eraseIdx_cons_succ]
    exact ((lm_pick w i x h).cons y).trans (List.Perm.swap x y _)
theorem lm_pick2 {α : Type} (w : List α) (i j : Nat) (x y : α) (h : w[i]? = some x) (h2 : (w.eraseIdx i)[j]? = some y) : w.Perm ([x, y] ++ (w.eraseIdx i).eraseIdx j) := (lm_pick w i x h).trans ((lm_pick _ j y h2).cons x)

theorem lm_pick2' {α : Type} {w' : List α} (i j : Nat) {x y : α} {wr : List α} (h : w'[i]? = some x) (h2 : (w'.eraseIdx i)[j]? = some y) (e : (w'.eraseIdx i).eraseIdx j = wr) : ([x, y] ++ wr).Perm w' := by
  subst e
  exact (lm_pick2 w' i j x y h h2).symm
theorem lm_pm4 {α : Type} {w1 t1 r1 w2 t2 r2 : List α} (h1 : w1.Perm (t1 ++ r1)) (h2 : w2.Perm (t2 ++ r2)) : (w1 ++ w2).Perm ((t1 ++ t2) ++ (r1 ++ r2)) := by
  refine (h1.append h2).trans ?_
  refine lm_cnt fun f g h1 h2 h3 => ?_
  simp only [h1]
  omega
theorem lm_pmc {α : Type} {w S R T R2 : List α} (h1 : w.Perm (S ++ R)) (h2 : S.Perm (T ++ R2)) : w.Perm (T ++ (R2 ++ R)) := by
  refine h1.trans ?_
  rw [← List.append_assoc]
  exact h2.append_right R
theorem lm_pmc' {α : Type} {w S R T R2 : List α} (h1 : (S ++ R).Perm w) (h2 : (T ++ R2).Perm S) : (T ++ (R2 ++ R)).Perm w := (lm_pmc h1.symm h2.symm).symm
def lm_rs (a : Nat → Nat → Nat) (r : Int32) : Value := if r = -1 then .null else .ref (a (3 + r.toNatClampNeg) 0)
theorem lm_pm4' {α : Type} {w1 t1 r1 w2 t2 r2 : List α} (h1 : (t1 ++ r1).Perm w1) (h2 : w2.Perm (t2 ++ r2)) : ((t1 ++ t2) ++ (r1 ++ r2)).Perm (w1 ++ w2) := (lm_pm4 h1.symm h2).symm

