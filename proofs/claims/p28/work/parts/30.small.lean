/-! from kit/laws/BITS.to-paste -/
theorem wb_tb (n : Nat) : (lN n).toBitVec = BitVec.ofNat 64 n := rfl
theorem wb_inj {a b : Int64} (h : a.toBitVec = b.toBitVec) : a = b := Int64.toBitVec_inj.mp h
theorem wb_c : ∀ k, k < 64 → ((nI k).toInt64 &&& 63) = lN k := by decide +kernel
theorem wb_sm : ∀ k, k < 64 → (BitVec.ofNat 64 k).smod 64 = BitVec.ofNat 64 k := by decide +kernel
theorem wb_shl (n : Nat) {k : Nat} (hk : k < 64) : lN n <<< ((nI k).toInt64 &&& 63) = lN (n * 2 ^ k) := by
  rw [wb_c k hk]
  apply wb_inj
  rw [Int64.toBitVec_shiftLeft, wb_tb, wb_tb, wb_tb, wb_sm k hk]
  apply BitVec.eq_of_toNat_eq
  rw [BitVec.shiftLeft_eq', BitVec.toNat_shiftLeft, BitVec.toNat_ofNat, BitVec.toNat_ofNat, BitVec.toNat_ofNat, Nat.mod_eq_of_lt (show k < 2 ^ 64 by omega), Nat.shiftLeft_eq, Nat.mul_mod, Nat.mod_mod, ← Nat.mul_mod]
/-! the class: small looks -/
def Ra (g : Nat → Nat) (l f : Nat → Nat) (k : Nat) : Nat := if g 1 = 2 then f k else if g 1 = 1 then g (97 + k) * 4294967296 + l k else l k
/-- the memory of the class, beside the reference's -/
def Cm (σ : Hp) (g : Nat → Nat) : Prop := ∃ (q : Nat) (l f : Nat → Nat), σ 11 3 = nI q ∧ q ≤ g 16 ∧ (∀ k, k < 10 → σ 12 k = nI (g (97 + k)) ∧ (0 < g (97 + k) → σ 13 k = nI (l k) ∧ σ 14 k = nI (f k) ∧ l k ≤ q ∧ f k ≤ q)) ∧ (∀ j k, j < 10 → k < 10 → 0 < g (97 + j) → 0 < g (97 + k) → (l j < l k ↔ g (107 + j) < g (107 + k)) ∧ (f j < f k ↔ g (117 + j) < g (117 + k)))
def Ct (σ : Hp) (g : Nat → Nat) : Prop := (σ 4 2 = nI (g 5) ∧ ∀ i, i < g 5 → σ 5 i = nI (g (17 + 2 * i)) ∧ σ 6 i = nI (g (18 + 2 * i))) ∧ (σ 1 2 = nI (g 6) ∧ ∀ i, i < g 6 → σ 2 i = nI (g (57 + 2 * i)) ∧ σ 3 i = nI (g (58 + 2 * i))) ∧ (σ 0 6 = nI (g 7) ∧ σ 0 7 = nI (g 8)) ∧ (∀ j, j < 5 → σ 15 j = nI (g j))
def Ca (σ : Hp) (g : Nat → Nat) : Prop := ∀ k, k < 10 → σ 8 k = nI (cnt g k) ∧ σ 9 k = nI (sm g k) ∧ (0 < cnt g k → σ 10 k = nI (fs g k))
/-- the counts; x stands for what the steps cost (the reference counts that behind the steps) -/
def Cy (σ : Hp) (g : Nat → Nat) (x : Nat) : Prop := ∀ j, j < 7 → σ 16 j = nI (if j = 2 then x else g (9 + j))
def Cs (σ : Hp) (g : Nat → Nat) (x : Nat) : Prop := Ct σ g ∧ Ca σ g ∧ Cy σ g x ∧ Cm σ g
theorem n02 : ((0 : Nat) = 2) = False := eq_false (by decide)
theorem n01 : ((0 : Nat) = 1) = False := eq_false (by decide)
section CL
variable {τ : Hp} {g : Nat → Nat}
theorem c_size : F_X5_size τ = some (τ 0 2) := rfl
theorem c_key {r : Nat} (h : r < 20) : F_X5_key τ (nI r) = some (τ 1 r) := by
  unfold F_X5_key
  simp (disch := omega) only [lm_br, lm_bd_some, lm_b2_some, lm_lt_eq, ev_gi, ev_cl, ev_add, ev_mul, ev_sub, ev_lt_t, ev_lt_f, ev_le_t, ev_le_f, ev_eq_t, ev_eq_f, if_true, if_false, ite_true, ite_false, not_true, not_false_eq_true, eq_self, and_self, and_true, true_and, and_false, false_and, or_true, true_or, or_false, false_or, Bool.false_eq_true, reduceIte, ev_k0, ev_k1, ev_k2, ev_k3, ev_k4, ev_k5, ev_k6, ev_k7, ev_k8, ev_k9, ev_k10, ev_k11, ev_k12, ev_k13, ev_k14, ev_k15, ev_k16, ev_k17, ev_k18, ev_k19, ev_k20, ev_k33, ev_k43, ev_k44, ev_k45, ev_k48, ev_k57, ev_k58, ev_k59, ev_k60, ev_k97, ev_k99, ev_k107, ev_k114, ev_k115, ev_k117, ev_k124, ev_k126, ev_k127, ev_k381, ev_k508]
theorem c_value {r : Nat} (h : r < 20) : F_X5_value τ (nI r) = some (τ 2 r) := by
  unfold F_X5_value
  simp (disch := omega) only [lm_br, lm_bd_some, lm_b2_some, lm_lt_eq, ev_gi, ev_cl, ev_add, ev_mul, ev_sub, ev_lt_t, ev_lt_f, ev_le_t, ev_le_f, ev_eq_t, ev_eq_f, if_true, if_false, ite_true, ite_false, not_true, not_false_eq_true, eq_self, and_self, and_true, true_and, and_false, false_and, or_true, true_or, or_false, false_or, Bool.false_eq_true, reduceIte, ev_k0, ev_k1, ev_k2, ev_k3, ev_k4, ev_k5, ev_k6, ev_k7, ev_k8, ev_k9, ev_k10, ev_k11, ev_k12, ev_k13, ev_k14, ev_k15, ev_k16, ev_k17, ev_k18, ev_k19, ev_k20, ev_k33, ev_k43, ev_k44, ev_k45, ev_k48, ev_k57, ev_k58, ev_k59, ev_k60, ev_k97, ev_k99, ev_k107, ev_k114, ev_k115, ev_k117, ev_k124, ev_k126, ev_k127, ev_k381, ev_k508]
theorem c_holds {k u : Nat} (hk : k < 10) (hu : u < 2147483648) (h : τ 1 k = nI u) : F_X2_holds τ (nI k) = some (if 0 < u then nI 1 else nI 0) := by
  unfold F_X2_holds
  by_cases q : 0 < u
  · simp (disch := omega) only [lm_br, lm_bd_some, lm_b2_some, lm_lt_eq, ev_gi, ev_cl, ev_add, ev_mul, ev_sub, ev_lt_t, ev_lt_f, ev_le_t, ev_le_f, ev_eq_t, ev_eq_f, if_true, if_false, ite_true, ite_false, not_true, not_false_eq_true, eq_self, and_self, and_true, true_and, and_false, false_and, or_true, true_or, or_false, false_or, Bool.false_eq_true, reduceIte, ev_k0, ev_k1, ev_k2, ev_k3, ev_k4, ev_k5, ev_k6, ev_k7, ev_k8, ev_k9, ev_k10, ev_k11, ev_k12, ev_k13, ev_k14, ev_k15, ev_k16, ev_k17, ev_k18, ev_k19, ev_k20, ev_k33, ev_k43, ev_k44, ev_k45, ev_k48, ev_k57, ev_k58, ev_k59, ev_k60, ev_k97, ev_k99, ev_k107, ev_k114, ev_k115, ev_k117, ev_k124, ev_k126, ev_k127, ev_k381, ev_k508, h, q]
  · simp (disch := omega) only [lm_br, lm_bd_some, lm_b2_some, lm_lt_eq, ev_gi, ev_cl, ev_add, ev_mul, ev_sub, ev_lt_t, ev_lt_f, ev_le_t, ev_le_f, ev_eq_t, ev_eq_f, if_true, if_false, ite_true, ite_false, not_true, not_false_eq_true, eq_self, and_self, and_true, true_and, and_false, false_and, or_true, true_or, or_false, false_or, Bool.false_eq_true, reduceIte, ev_k0, ev_k1, ev_k2, ev_k3, ev_k4, ev_k5, ev_k6, ev_k7, ev_k8, ev_k9, ev_k10, ev_k11, ev_k12, ev_k13, ev_k14, ev_k15, ev_k16, ev_k17, ev_k18, ev_k19, ev_k20, ev_k33, ev_k43, ev_k44, ev_k45, ev_k48, ev_k57, ev_k58, ev_k59, ev_k60, ev_k97, ev_k99, ev_k107, ev_k114, ev_k115, ev_k117, ev_k124, ev_k126, ev_k127, ev_k381, ev_k508, h, q]
theorem c_weight {k n : Nat} (hk : k < 10) (h : τ 1 k = nI n) : F_X0_weight τ (nI k) = some (nI (2 + n)) := by
  unfold F_X0_weight
  simp (disch := omega) only [lm_br, lm_bd_some, lm_b2_some, lm_lt_eq, ev_gi, ev_cl, ev_add, ev_mul, ev_sub, ev_lt_t, ev_lt_f, ev_le_t, ev_le_f, ev_eq_t, ev_eq_f, if_true, if_false, ite_true, ite_false, not_true, not_false_eq_true, eq_self, and_self, and_true, true_and, and_false, false_and, or_true, true_or, or_false, false_or, Bool.false_eq_true, reduceIte, ev_k0, ev_k1, ev_k2, ev_k3, ev_k4, ev_k5, ev_k6, ev_k7, ev_k8, ev_k9, ev_k10, ev_k11, ev_k12, ev_k13, ev_k14, ev_k15, ev_k16, ev_k17, ev_k18, ev_k19, ev_k20, ev_k33, ev_k43, ev_k44, ev_k45, ev_k48, ev_k57, ev_k58, ev_k59, ev_k60, ev_k97, ev_k99, ev_k107, ev_k114, ev_k115, ev_k117, ev_k124, ev_k126, ev_k127, ev_k381, ev_k508, h]
theorem c_sum {k : Nat} (hk : k < 10) : F_X0_sum τ (nI k) = some (τ 2 k) := by
  unfold F_X0_sum
  simp (disch := omega) only [lm_br, lm_bd_some, lm_b2_some, lm_lt_eq, ev_gi, ev_cl, ev_add, ev_mul, ev_sub, ev_lt_t, ev_lt_f, ev_le_t, ev_le_f, ev_eq_t, ev_eq_f, if_true, if_false, ite_true, ite_false, not_true, not_false_eq_true, eq_self, and_self, and_true, true_and, and_false, false_and, or_true, true_or, or_false, false_or, Bool.false_eq_true, reduceIte, ev_k0, ev_k1, ev_k2, ev_k3, ev_k4, ev_k5, ev_k6, ev_k7, ev_k8, ev_k9, ev_k10, ev_k11, ev_k12, ev_k13, ev_k14, ev_k15, ev_k16, ev_k17, ev_k18, ev_k19, ev_k20, ev_k33, ev_k43, ev_k44, ev_k45, ev_k48, ev_k57, ev_k58, ev_k59, ev_k60, ev_k97, ev_k99, ev_k107, ev_k114, ev_k115, ev_k117, ev_k124, ev_k126, ev_k127, ev_k381, ev_k508]
theorem c_lose {k : Nat} (hk : k < 10) : F_X2_lose τ (nI k) = some (lm_u τ 1 k (nI 0)) := by
  unfold F_X2_lose
  simp (disch := omega) only [lm_br, lm_bd_some, lm_b2_some, lm_lt_eq, ev_gi, ev_cl, ev_add, ev_mul, ev_sub, ev_lt_t, ev_lt_f, ev_le_t, ev_le_f, ev_eq_t, ev_eq_f, if_true, if_false, ite_true, ite_false, not_true, not_false_eq_true, eq_self, and_self, and_true, true_and, and_false, false_and, or_true, true_or, or_false, false_or, Bool.false_eq_true, reduceIte, ev_k0, ev_k1, ev_k2, ev_k3, ev_k4, ev_k5, ev_k6, ev_k7, ev_k8, ev_k9, ev_k10, ev_k11, ev_k12, ev_k13, ev_k14, ev_k15, ev_k16, ev_k17, ev_k18, ev_k19, ev_k20, ev_k33, ev_k43, ev_k44, ev_k45, ev_k48, ev_k57, ev_k58, ev_k59, ev_k60, ev_k97, ev_k99, ev_k107, ev_k114, ev_k115, ev_k117, ev_k124, ev_k126, ev_k127, ev_k381, ev_k508]
theorem c_take {k q : Nat} (hk : k < 10) (h : τ 0 3 = nI q) : F_X2_take τ (nI k) = some (lm_u (lm_u (lm_u (lm_u τ 0 3 (nI (q + 1))) 1 k (nI 1)) 3 k (nI (q + 1))) 2 k (nI (q + 1))) := by
  unfold F_X2_take
  have e1 : ∀ c x, c ≠ 0 → (lm_u (lm_u τ 0 3 (nI (q + 1))) c k x) 0 3 = nI (q + 1) := fun c x hc => by rw [lu_c _ _ _ (by omega), lu_same]
  have e2 : ∀ c d x y, c ≠ 0 → d ≠ 0 → (lm_u (lm_u (lm_u τ 0 3 (nI (q + 1))) c k x) d k y) 0 3 = nI (q + 1) := fun c d x y hc hd => by rw [lu_c _ _ _ (by omega), e1 c x hc]
  simp (disch := omega) only [lm_br, lm_bd_some, lm_b2_some, lm_lt_eq, ev_gi, ev_cl, ev_add, ev_mul, ev_sub, ev_lt_t, ev_lt_f, ev_le_t, ev_le_f, ev_eq_t, ev_eq_f, if_true, if_false, ite_true, ite_false, not_true, not_false_eq_true, eq_self, and_self, and_true, true_and, and_false, false_and, or_true, true_or, or_false, false_or, Bool.false_eq_true, reduceIte, ev_k0, ev_k1, ev_k2, ev_k3, ev_k4, ev_k5, ev_k6, ev_k7, ev_k8, ev_k9, ev_k10, ev_k11, ev_k12, ev_k13, ev_k14, ev_k15, ev_k16, ev_k17, ev_k18, ev_k19, ev_k20, ev_k33, ev_k43, ev_k44, ev_k45, ev_k48, ev_k57, ev_k58, ev_k59, ev_k60, ev_k97, ev_k99, ev_k107, ev_k114, ev_k115, ev_k117, ev_k124, ev_k126, ev_k127, ev_k381, ev_k508, h, e1, e2]
theorem c_touch {k q u : Nat} (hk : k < 10) (h : τ 0 3 = nI q) (h1 : τ 1 k = nI u) : F_X2_touch τ (nI k) = some (lm_u (lm_u (lm_u τ 0 3 (nI (q + 1))) 1 k (nI (u + 1))) 2 k (nI (q + 1))) := by
  unfold F_X2_touch
  have e1 : ∀ c x, c ≠ 0 → (lm_u (lm_u τ 0 3 (nI (q + 1))) c k x) 0 3 = nI (q + 1) := fun c x hc => by rw [lu_c _ _ _ (by omega), lu_same]
  have e2 : (lm_u τ 0 3 (nI (q + 1))) 1 k = nI u := by rw [lu_c _ _ _ (by omega), h1]
  simp (disch := omega) only [lm_br, lm_bd_some, lm_b2_some, lm_lt_eq, ev_gi, ev_cl, ev_add, ev_mul, ev_sub, ev_lt_t, ev_lt_f, ev_le_t, ev_le_f, ev_eq_t, ev_eq_f, if_true, if_false, ite_true, ite_false, not_true, not_false_eq_true, eq_self, and_self, and_true, true_and, and_false, false_and, or_true, true_or, or_false, false_or, Bool.false_eq_true, reduceIte, ev_k0, ev_k1, ev_k2, ev_k3, ev_k4, ev_k5, ev_k6, ev_k7, ev_k8, ev_k9, ev_k10, ev_k11, ev_k12, ev_k13, ev_k14, ev_k15, ev_k16, ev_k17, ev_k18, ev_k19, ev_k20, ev_k33, ev_k43, ev_k44, ev_k45, ev_k48, ev_k57, ev_k58, ev_k59, ev_k60, ev_k97, ev_k99, ev_k107, ev_k114, ev_k115, ev_k117, ev_k124, ev_k126, ev_k127, ev_k381, ev_k508, h, e1, e2]
theorem c_rank {l f : Nat → Nat} {k : Nat} (hk : k < 10) (h1 : g 1 ≤ 2) (hu : τ 1 k = nI (g (97 + k))) (hl : τ 2 k = nI (l k)) (hf : τ 3 k = nI (f k)) (bu : g (97 + k) < 1073741824) (bl : l k < 1073741824) (bf : f k < 1073741824) : F_X2_rank τ (nI k) (nI (g 1)) = some (lN (Ra g l f k)) := by
  unfold F_X2_rank Ra
  have z : (0 : Int64) = lN 0 := rfl
  by_cases r2 : g 1 = 2
  · simp (disch := omega) only [lm_br, lm_bd_some, lm_b2_some, lm_lt_eq, ev_gi, ev_cl, ev_add, ev_mul, ev_sub, ev_lt_t, ev_lt_f, ev_le_t, ev_le_f, ev_eq_t, ev_eq_f, if_true, if_false, ite_true, ite_false, not_true, not_false_eq_true, eq_self, and_self, and_true, true_and, and_false, false_and, or_true, true_or, or_false, false_or, Bool.false_eq_true, reduceIte, ev_k0, ev_k1, ev_k2, ev_k3, ev_k4, ev_k5, ev_k6, ev_k7, ev_k8, ev_k9, ev_k10, ev_k11, ev_k12, ev_k13, ev_k14, ev_k15, ev_k16, ev_k17, ev_k18, ev_k19, ev_k20, ev_k33, ev_k43, ev_k44, ev_k45, ev_k48, ev_k57, ev_k58, ev_k59, ev_k60, ev_k97, ev_k99, ev_k107, ev_k114, ev_k115, ev_k117, ev_k124, ev_k126, ev_k127, ev_k381, ev_k508, r2, hf, nI_l]
  · by_cases r1 : g 1 = 1
    · have k32 : (32 : Int32) = nI 32 := rfl
      have es : ∀ n : Nat, lN n <<< (lN 32 &&& 63) = lN (n * 4294967296) := fun n => by
        have := wb_shl n (k := 32) (by omega)
        rw [nI_l (by omega)] at this
        exact this
      simp (disch := omega) only [lm_br, lm_bd_some, lm_b2_some, lm_lt_eq, ev_gi, ev_cl, ev_add, ev_mul, ev_sub, ev_lt_t, ev_lt_f, ev_le_t, ev_le_f, ev_eq_t, ev_eq_f, if_true, if_false, ite_true, ite_false, not_true, not_false_eq_true, eq_self, and_self, and_true, true_and, and_false, false_and, or_true, true_or, or_false, false_or, Bool.false_eq_true, reduceIte, ev_k0, ev_k1, ev_k2, ev_k3, ev_k4, ev_k5, ev_k6, ev_k7, ev_k8, ev_k9, ev_k10, ev_k11, ev_k12, ev_k13, ev_k14, ev_k15, ev_k16, ev_k17, ev_k18, ev_k19, ev_k20, ev_k33, ev_k43, ev_k44, ev_k45, ev_k48, ev_k57, ev_k58, ev_k59, ev_k60, ev_k97, ev_k99, ev_k107, ev_k114, ev_k115, ev_k117, ev_k124, ev_k126, ev_k127, ev_k381, ev_k508, r1, n12, hu, hl, nI_l, k32, es, lN_add]
    · have r0 : g 1 = 0 := by omega
      simp (disch := omega) only [lm_br, lm_bd_some, lm_b2_some, lm_lt_eq, ev_gi, ev_cl, ev_add, ev_mul, ev_sub, ev_lt_t, ev_lt_f, ev_le_t, ev_le_f, ev_eq_t, ev_eq_f, if_true, if_false, ite_true, ite_false, not_true, not_false_eq_true, eq_self, and_self, and_true, true_and, and_false, false_and, or_true, true_or, or_false, false_or, Bool.false_eq_true, reduceIte, ev_k0, ev_k1, ev_k2, ev_k3, ev_k4, ev_k5, ev_k6, ev_k7, ev_k8, ev_k9, ev_k10, ev_k11, ev_k12, ev_k13, ev_k14, ev_k15, ev_k16, ev_k17, ev_k18, ev_k19, ev_k20, ev_k33, ev_k43, ev_k44, ev_k45, ev_k48, ev_k57, ev_k58, ev_k59, ev_k60, ev_k97, ev_k99, ev_k107, ev_k114, ev_k115, ev_k117, ev_k124, ev_k126, ev_k127, ev_k381, ev_k508, r0, hl, nI_l, z, lN_add, Nat.zero_add, n02, n01]
end CL

