/-! order, room, throwing out, keeping: the reference -/
/-- one goes ahead of another, by the reference's numbers -/
def ah (g : Nat → Nat) (j k : Nat) : Bool :=
  if g 1 = 2 then decide (g (117 + j) < g (117 + k)) else if g 1 = 1 then decide (g (97 + j) < g (97 + k)) || (decide (g (97 + j) = g (97 + k)) && decide (g (107 + j) < g (107 + k))) else decide (g (107 + j) < g (107 + k))
/-- the numbers of the memory are small -/
def Kc (g : Nat → Nat) : Prop := g 1 ≤ 2 ∧ ∀ k, k < 10 → g (97 + k) < 1073741824 ∧ (0 < g (97 + k) → g (107 + k) < 1073741824 ∧ g (117 + k) < 1073741824)
theorem Kc.b {g : Nat → Nat} (h : Kc g) : Kb g := fun k hk => Nat.lt_trans (h.2 k hk).1 (by omega)
section OM
variable {μ : Hp} {g : Nat → Nat}
theorem n12 : ((1 : Nat) = 2) = False := eq_false (by decide)
theorem ev_subneg {a b : Nat} (ha : a < 1073741824) (hb : b < 1073741824) : (nI a - nI b < nI 0) = (a < b) := by
  apply propext
  have e0 : (nI 0 : Int32) = 0 := nI_0
  rw [e0]
  constructor
  · intro h
    rcases Nat.lt_or_ge a b with q | q
    · exact q
    · rw [pk_sub q] at h
      exact absurd h (nI_pos (by omega))
  · intro h
    exact pk_sneg hb h
theorem ev_subz {a b : Nat} (ha : a < 1073741824) (hb : b < 1073741824) : (nI a - nI b = nI 0) = (a = b) := by
  apply propext
  constructor
  · intro h
    rcases Nat.lt_trichotomy a b with q | q | q
    · have := pk_sneg hb q
      rw [h] at this
      exact absurd this (by rw [nI_0]; decide)
    · exact q
    · rw [pk_sub (Nat.le_of_lt q)] at h
      have := (nI_eq (by omega) (by omega)).mp h
      omega
  · intro h
    subst h
    rw [pk_sub (Nat.le_refl a), Nat.sub_self]
theorem o_isAhead (hM : Mo μ g) (hK : Kc g) {j k : Nat} (hj : j < 10) (hk : k < 10) (kj : 0 < g (97 + j)) (kk : 0 < g (97 + k)) : F_X7_isAhead μ (nI j) (nI k) = some (if ah g j k = true then nI 1 else nI 0) := by
  obtain ⟨h1, hB⟩ := hK
  obtain ⟨a1, a2⟩ := hB j hj
  obtain ⟨b1, b2⟩ := hB k hk
  obtain ⟨a2, a3⟩ := a2 kj
  obtain ⟨b2, b3⟩ := b2 kk
  unfold F_X7_isAhead ah
  by_cases r2 : g 1 = 2
  · by_cases h : g (117 + j) < g (117 + k)
    · simp (disch := omega) only [lm_br, lm_bd_some, lm_b2_some, lm_lt_eq, ev_gi, ev_cl, ev_add, ev_mul, ev_sub, ev_lt_t, ev_lt_f, ev_le_t, ev_le_f, ev_eq_t, ev_eq_f, if_true, if_false, ite_true, ite_false, not_true, not_false_eq_true, eq_self, and_self, and_true, true_and, and_false, false_and, or_true, true_or, or_false, false_or, Bool.false_eq_true, reduceIte, ev_k0, ev_k1, ev_k2, ev_k3, ev_k4, ev_k5, ev_k6, ev_k7, ev_k8, ev_k9, ev_k10, ev_k11, ev_k12, ev_k13, ev_k14, ev_k15, ev_k16, ev_k17, ev_k18, ev_k19, ev_k20, ev_k33, ev_k43, ev_k44, ev_k45, ev_k48, ev_k57, ev_k58, ev_k59, ev_k60, ev_k97, ev_k99, ev_k107, ev_k114, ev_k115, ev_k117, ev_k124, ev_k126, ev_k127, ev_k381, ev_k508, hM, r2, h, decide_true]
    · simp (disch := omega) only [lm_br, lm_bd_some, lm_b2_some, lm_lt_eq, ev_gi, ev_cl, ev_add, ev_mul, ev_sub, ev_lt_t, ev_lt_f, ev_le_t, ev_le_f, ev_eq_t, ev_eq_f, if_true, if_false, ite_true, ite_false, not_true, not_false_eq_true, eq_self, and_self, and_true, true_and, and_false, false_and, or_true, true_or, or_false, false_or, Bool.false_eq_true, reduceIte, ev_k0, ev_k1, ev_k2, ev_k3, ev_k4, ev_k5, ev_k6, ev_k7, ev_k8, ev_k9, ev_k10, ev_k11, ev_k12, ev_k13, ev_k14, ev_k15, ev_k16, ev_k17, ev_k18, ev_k19, ev_k20, ev_k33, ev_k43, ev_k44, ev_k45, ev_k48, ev_k57, ev_k58, ev_k59, ev_k60, ev_k97, ev_k99, ev_k107, ev_k114, ev_k115, ev_k117, ev_k124, ev_k126, ev_k127, ev_k381, ev_k508, hM, r2, h, decide_false]
  · by_cases r1 : g 1 = 1
    · rcases Nat.lt_trichotomy (g (97 + j)) (g (97 + k)) with h | h | h
      · have h' : ¬ g (97 + j) = g (97 + k) := by omega
        simp (disch := omega) only [lm_br, lm_bd_some, lm_b2_some, lm_lt_eq, ev_gi, ev_cl, ev_add, ev_mul, ev_sub, ev_lt_t, ev_lt_f, ev_le_t, ev_le_f, ev_eq_t, ev_eq_f, if_true, if_false, ite_true, ite_false, not_true, not_false_eq_true, eq_self, and_self, and_true, true_and, and_false, false_and, or_true, true_or, or_false, false_or, Bool.false_eq_true, reduceIte, ev_k0, ev_k1, ev_k2, ev_k3, ev_k4, ev_k5, ev_k6, ev_k7, ev_k8, ev_k9, ev_k10, ev_k11, ev_k12, ev_k13, ev_k14, ev_k15, ev_k16, ev_k17, ev_k18, ev_k19, ev_k20, ev_k33, ev_k43, ev_k44, ev_k45, ev_k48, ev_k57, ev_k58, ev_k59, ev_k60, ev_k97, ev_k99, ev_k107, ev_k114, ev_k115, ev_k117, ev_k124, ev_k126, ev_k127, ev_k381, ev_k508, hM, n12, r2, r1, h, h', ev_subneg, ev_subz, decide_true, Bool.true_or]
      · have h' : ¬ g (97 + j) < g (97 + k) := by omega
        by_cases q : g (107 + j) < g (107 + k)
        · simp (disch := omega) only [lm_br, lm_bd_some, lm_b2_some, lm_lt_eq, ev_gi, ev_cl, ev_add, ev_mul, ev_sub, ev_lt_t, ev_lt_f, ev_le_t, ev_le_f, ev_eq_t, ev_eq_f, if_true, if_false, ite_true, ite_false, not_true, not_false_eq_true, eq_self, and_self, and_true, true_and, and_false, false_and, or_true, true_or, or_false, false_or, Bool.false_eq_true, reduceIte, ev_k0, ev_k1, ev_k2, ev_k3, ev_k4, ev_k5, ev_k6, ev_k7, ev_k8, ev_k9, ev_k10, ev_k11, ev_k12, ev_k13, ev_k14, ev_k15, ev_k16, ev_k17, ev_k18, ev_k19, ev_k20, ev_k33, ev_k43, ev_k44, ev_k45, ev_k48, ev_k57, ev_k58, ev_k59, ev_k60, ev_k97, ev_k99, ev_k107, ev_k114, ev_k115, ev_k117, ev_k124, ev_k126, ev_k127, ev_k381, ev_k508, hM, n12, r2, r1, h, ev_subneg, ev_subz, Nat.lt_irrefl, q, decide_true, decide_false, Bool.false_or, Bool.true_and]
        · simp (disch := omega) only [lm_br, lm_bd_some, lm_b2_some, lm_lt_eq, ev_gi, ev_cl, ev_add, ev_mul, ev_sub, ev_lt_t, ev_lt_f, ev_le_t, ev_le_f, ev_eq_t, ev_eq_f, if_true, if_false, ite_true, ite_false, not_true, not_false_eq_true, eq_self, and_self, and_true, true_and, and_false, false_and, or_true, true_or, or_false, false_or, Bool.false_eq_true, reduceIte, ev_k0, ev_k1, ev_k2, ev_k3, ev_k4, ev_k5, ev_k6, ev_k7, ev_k8, ev_k9, ev_k10, ev_k11, ev_k12, ev_k13, ev_k14, ev_k15, ev_k16, ev_k17, ev_k18, ev_k19, ev_k20, ev_k33, ev_k43, ev_k44, ev_k45, ev_k48, ev_k57, ev_k58, ev_k59, ev_k60, ev_k97, ev_k99, ev_k107, ev_k114, ev_k115, ev_k117, ev_k124, ev_k126, ev_k127, ev_k381, ev_k508, hM, n12, r2, r1, h, ev_subneg, ev_subz, Nat.lt_irrefl, q, decide_true, decide_false, Bool.false_or, Bool.true_and]
      · have h' : ¬ g (97 + j) < g (97 + k) := by omega
        have h'' : ¬ g (97 + j) = g (97 + k) := by omega
        simp (disch := omega) only [lm_br, lm_bd_some, lm_b2_some, lm_lt_eq, ev_gi, ev_cl, ev_add, ev_mul, ev_sub, ev_lt_t, ev_lt_f, ev_le_t, ev_le_f, ev_eq_t, ev_eq_f, if_true, if_false, ite_true, ite_false, not_true, not_false_eq_true, eq_self, and_self, and_true, true_and, and_false, false_and, or_true, true_or, or_false, false_or, Bool.false_eq_true, reduceIte, ev_k0, ev_k1, ev_k2, ev_k3, ev_k4, ev_k5, ev_k6, ev_k7, ev_k8, ev_k9, ev_k10, ev_k11, ev_k12, ev_k13, ev_k14, ev_k15, ev_k16, ev_k17, ev_k18, ev_k19, ev_k20, ev_k33, ev_k43, ev_k44, ev_k45, ev_k48, ev_k57, ev_k58, ev_k59, ev_k60, ev_k97, ev_k99, ev_k107, ev_k114, ev_k115, ev_k117, ev_k124, ev_k126, ev_k127, ev_k381, ev_k508, hM, n12, r2, r1, h', h'', ev_subneg, ev_subz, decide_false, Bool.false_or, Bool.false_and]
    · by_cases h : g (107 + j) < g (107 + k)
      · simp (disch := omega) only [lm_br, lm_bd_some, lm_b2_some, lm_lt_eq, ev_gi, ev_cl, ev_add, ev_mul, ev_sub, ev_lt_t, ev_lt_f, ev_le_t, ev_le_f, ev_eq_t, ev_eq_f, if_true, if_false, ite_true, ite_false, not_true, not_false_eq_true, eq_self, and_self, and_true, true_and, and_false, false_and, or_true, true_or, or_false, false_or, Bool.false_eq_true, reduceIte, ev_k0, ev_k1, ev_k2, ev_k3, ev_k4, ev_k5, ev_k6, ev_k7, ev_k8, ev_k9, ev_k10, ev_k11, ev_k12, ev_k13, ev_k14, ev_k15, ev_k16, ev_k17, ev_k18, ev_k19, ev_k20, ev_k33, ev_k43, ev_k44, ev_k45, ev_k48, ev_k57, ev_k58, ev_k59, ev_k60, ev_k97, ev_k99, ev_k107, ev_k114, ev_k115, ev_k117, ev_k124, ev_k126, ev_k127, ev_k381, ev_k508, hM, n12, r2, r1, h, decide_true]
      · simp (disch := omega) only [lm_br, lm_bd_some, lm_b2_some, lm_lt_eq, ev_gi, ev_cl, ev_add, ev_mul, ev_sub, ev_lt_t, ev_lt_f, ev_le_t, ev_le_f, ev_eq_t, ev_eq_f, if_true, if_false, ite_true, ite_false, not_true, not_false_eq_true, eq_self, and_self, and_true, true_and, and_false, false_and, or_true, true_or, or_false, false_or, Bool.false_eq_true, reduceIte, ev_k0, ev_k1, ev_k2, ev_k3, ev_k4, ev_k5, ev_k6, ev_k7, ev_k8, ev_k9, ev_k10, ev_k11, ev_k12, ev_k13, ev_k14, ev_k15, ev_k16, ev_k17, ev_k18, ev_k19, ev_k20, ev_k33, ev_k43, ev_k44, ev_k45, ev_k48, ev_k57, ev_k58, ev_k59, ev_k60, ev_k97, ev_k99, ev_k107, ev_k114, ev_k115, ev_k117, ev_k124, ev_k126, ev_k127, ev_k381, ev_k508, hM, n12, r2, r1, h, decide_false]
/-- the place in the order -/
def oD (g : Nat → Nat) (q : Nat) : Nat → Nat → Nat
  | 0, _ => 0
  | d + 1, k => (if 0 < g (97 + k) then (if ah g k q = true then 1 else 0) else 0) + oD g q d (k + 1)
theorem o_orderOf_L (hM : Mo μ g) (hK : Kc g) {q : Nat} (hq : q < 10) (kq : 0 < g (97 + q)) : ∀ d n k acc, k + d = 10 → d < n → F_X7_orderOf_L4 n μ (nI q) (nI acc) (nI k) = some (nI (acc + oD g q d k)) := by
  intro d
  induction d with
  | zero =>
    intro n k acc hr hn
    cases n with
    | zero => omega
    | succ n =>
      rw [F_X7_orderOf_L4, oD]
      simp (disch := omega) only [lm_br, lm_bd_some, lm_b2_some, lm_lt_eq, ev_gi, ev_cl, ev_add, ev_mul, ev_sub, ev_lt_t, ev_lt_f, ev_le_t, ev_le_f, ev_eq_t, ev_eq_f, if_true, if_false, ite_true, ite_false, not_true, not_false_eq_true, eq_self, and_self, and_true, true_and, and_false, false_and, or_true, true_or, or_false, false_or, Bool.false_eq_true, reduceIte, ev_k0, ev_k1, ev_k2, ev_k3, ev_k4, ev_k5, ev_k6, ev_k7, ev_k8, ev_k9, ev_k10, ev_k11, ev_k12, ev_k13, ev_k14, ev_k15, ev_k16, ev_k17, ev_k18, ev_k19, ev_k20, ev_k33, ev_k43, ev_k44, ev_k45, ev_k48, ev_k57, ev_k58, ev_k59, ev_k60, ev_k97, ev_k99, ev_k107, ev_k114, ev_k115, ev_k117, ev_k124, ev_k126, ev_k127, ev_k381, ev_k508, hM]
      rfl
  | succ d ih =>
    intro n k acc hr hn
    cases n with
    | zero => omega
    | succ n =>
      rw [F_X7_orderOf_L4, oD]
      have hf := o_isKnown hM (k := k) (by omega) (hK.b k (by omega))
      by_cases h : 0 < g (97 + k)
      · have ha := o_isAhead hM hK (j := k) (k := q) (by omega) hq h kq
        by_cases h2 : ah g k q = true
        · simp (disch := omega) only [lm_br, lm_bd_some, lm_b2_some, lm_lt_eq, ev_gi, ev_cl, ev_add, ev_mul, ev_sub, ev_lt_t, ev_lt_f, ev_le_t, ev_le_f, ev_eq_t, ev_eq_f, if_true, if_false, ite_true, ite_false, not_true, not_false_eq_true, eq_self, and_self, and_true, true_and, and_false, false_and, or_true, true_or, or_false, false_or, Bool.false_eq_true, reduceIte, ev_k0, ev_k1, ev_k2, ev_k3, ev_k4, ev_k5, ev_k6, ev_k7, ev_k8, ev_k9, ev_k10, ev_k11, ev_k12, ev_k13, ev_k14, ev_k15, ev_k16, ev_k17, ev_k18, ev_k19, ev_k20, ev_k33, ev_k43, ev_k44, ev_k45, ev_k48, ev_k57, ev_k58, ev_k59, ev_k60, ev_k97, ev_k99, ev_k107, ev_k114, ev_k115, ev_k117, ev_k124, ev_k126, ev_k127, ev_k381, ev_k508, hM, hf, h, ha, h2]
          rw [ih n (k + 1) _ (by omega) (by omega)]
          congr 2
          omega
        · simp (disch := omega) only [lm_br, lm_bd_some, lm_b2_some, lm_lt_eq, ev_gi, ev_cl, ev_add, ev_mul, ev_sub, ev_lt_t, ev_lt_f, ev_le_t, ev_le_f, ev_eq_t, ev_eq_f, if_true, if_false, ite_true, ite_false, not_true, not_false_eq_true, eq_self, and_self, and_true, true_and, and_false, false_and, or_true, true_or, or_false, false_or, Bool.false_eq_true, reduceIte, ev_k0, ev_k1, ev_k2, ev_k3, ev_k4, ev_k5, ev_k6, ev_k7, ev_k8, ev_k9, ev_k10, ev_k11, ev_k12, ev_k13, ev_k14, ev_k15, ev_k16, ev_k17, ev_k18, ev_k19, ev_k20, ev_k33, ev_k43, ev_k44, ev_k45, ev_k48, ev_k57, ev_k58, ev_k59, ev_k60, ev_k97, ev_k99, ev_k107, ev_k114, ev_k115, ev_k117, ev_k124, ev_k126, ev_k127, ev_k381, ev_k508, hM, hf, h, ha, h2]
          rw [ih n (k + 1) _ (by omega) (by omega)]
          congr 2
          omega
      · simp (disch := omega) only [lm_br, lm_bd_some, lm_b2_some, lm_lt_eq, ev_gi, ev_cl, ev_add, ev_mul, ev_sub, ev_lt_t, ev_lt_f, ev_le_t, ev_le_f, ev_eq_t, ev_eq_f, if_true, if_false, ite_true, ite_false, not_true, not_false_eq_true, eq_self, and_self, and_true, true_and, and_false, false_and, or_true, true_or, or_false, false_or, Bool.false_eq_true, reduceIte, ev_k0, ev_k1, ev_k2, ev_k3, ev_k4, ev_k5, ev_k6, ev_k7, ev_k8, ev_k9, ev_k10, ev_k11, ev_k12, ev_k13, ev_k14, ev_k15, ev_k16, ev_k17, ev_k18, ev_k19, ev_k20, ev_k33, ev_k43, ev_k44, ev_k45, ev_k48, ev_k57, ev_k58, ev_k59, ev_k60, ev_k97, ev_k99, ev_k107, ev_k114, ev_k115, ev_k117, ev_k124, ev_k126, ev_k127, ev_k381, ev_k508, hM, hf, h]
        rw [ih n (k + 1) _ (by omega) (by omega)]
        congr 2
        omega
theorem o_orderOf (hM : Mo μ g) (hK : Kc g) {q : Nat} (hq : q < 10) (kq : 0 < g (97 + q)) : F_X7_orderOf μ (nI q) = some (nI (oD g q 10 0)) := by
  unfold F_X7_orderOf
  show F_X7_orderOf_L4 1000 μ (nI q) (nI 0) (nI 0) = _
  rw [o_orderOf_L hM hK hq kq 10 1000 0 0 (by omega) (by omega)]
  simp
/-- the one that goes first, but for sp: a running best, 10 for none -/
def pD (kn : Nat → Bool) (a : Nat → Nat → Bool) (sp : Nat) : Nat → Nat → Nat → Nat
  | 0, _, b => b
  | d + 1, k, b => pD kn a sp d (k + 1) (if k ≠ sp ∧ kn k = true ∧ (10 ≤ b ∨ a k b = true) then k else b)
def knb (g : Nat → Nat) (k : Nat) : Bool := decide (0 < g (97 + k))
def fir (g : Nat → Nat) (sp : Nat) : Nat := pD (knb g) (ah g) sp 10 0 10
/-- a number that stands for none, or a key -/
def nk (z : Int32) (b : Nat) : Int32 := if b < 10 then nI b else z
theorem o_first_L (hM : Mo μ g) (hK : Kc g) {sp : Nat} {but : Int32} (hsp : (sp < 10 ∧ but = nI sp) ∨ (10 ≤ sp ∧ but = -4)) : ∀ d n k b, k + d = 10 → d < n → b ≤ 10 → (b < 10 → 0 < g (97 + b)) → F_X7_first_L5 n μ but (nk (-4) b) (nI k) = some (nk (-4) (pD (knb g) (ah g) sp d k b)) := by
  intro d
  induction d with
  | zero =>
    intro n k b hr hn hb hb2
    cases n with
    | zero => omega
    | succ n =>
      rw [F_X7_first_L5, pD]
      simp (disch := omega) only [lm_br, lm_bd_some, lm_b2_some, lm_lt_eq, ev_gi, ev_cl, ev_add, ev_mul, ev_sub, ev_lt_t, ev_lt_f, ev_le_t, ev_le_f, ev_eq_t, ev_eq_f, if_true, if_false, ite_true, ite_false, not_true, not_false_eq_true, eq_self, and_self, and_true, true_and, and_false, false_and, or_true, true_or, or_false, false_or, Bool.false_eq_true, reduceIte, ev_k0, ev_k1, ev_k2, ev_k3, ev_k4, ev_k5, ev_k6, ev_k7, ev_k8, ev_k9, ev_k10, ev_k11, ev_k12, ev_k13, ev_k14, ev_k15, ev_k16, ev_k17, ev_k18, ev_k19, ev_k20, ev_k33, ev_k43, ev_k44, ev_k45, ev_k48, ev_k57, ev_k58, ev_k59, ev_k60, ev_k97, ev_k99, ev_k107, ev_k114, ev_k115, ev_k117, ev_k124, ev_k126, ev_k127, ev_k381, ev_k508, hM]
  | succ d ih =>
    intro n k b hr hn hb hb2
    cases n with
    | zero => omega
    | succ n =>
      rw [F_X7_first_L5, pD]
      have hf := o_isKnown hM (k := k) (by omega) (hK.b k (by omega))
      have hks : (nI k = but) ↔ k = sp := by
        rcases hsp with ⟨h1, h2⟩ | ⟨h1, h2⟩
        · rw [h2]
          exact nI_eq (by omega) (by omega)
        · rw [h2]
          constructor
          · intro e
            exfalso
            have : nI k < 0 := by rw [e]; decide
            exact nI_pos (by omega) this
          · intro e
            omega
      have k10 : ¬ (10 : Int32) ≤ nI k := by rw [ev_k10]; exact nI_ge (by omega) (by omega)
      have e1 : nI k + 1 = nI (k + 1) := nI_1 k
      rw [lm_br, if_neg k10, lm_br, e1]
      by_cases h0 : k = sp
      · rw [if_pos (hks.mpr h0), if_neg (by simp [h0])]
        exact ih n (k + 1) b (by omega) (by omega) hb hb2
      · rw [if_neg (fun e => h0 (hks.mp e)), hf]
        by_cases h : 0 < g (97 + k)
        · have hkn : knb g k = true := by simp [knb, h]
          rw [if_pos h, lm_bd_some, lm_br, if_neg (by decide), lm_br]
          by_cases h2 : b < 10
          · have n0 : ¬ nk (-4) b < 0 := by rw [nk, if_pos h2]; exact nI_pos (by omega)
            rw [if_neg n0, show nk (-4) b = nI b from if_pos h2, o_isAhead hM hK (by omega) h2 h (hb2 h2)]
            by_cases h3 : ah g k b = true
            · rw [if_pos h3, lm_bd_some, lm_br, if_neg (by decide), if_pos ⟨h0, hkn, Or.inr h3⟩]
              have := ih n (k + 1) k (by omega) (by omega) (by omega) (fun _ => h)
              rw [nk, if_pos (by omega)] at this
              exact this
            · rw [if_neg h3, lm_bd_some, lm_br, if_pos (by decide), if_neg (fun q => q.2.2.elim (by omega) h3)]
              have := ih n (k + 1) b (by omega) (by omega) hb hb2
              rw [show nk (-4) b = nI b from if_pos h2] at this
              exact this
          · have n0 : nk (-4) b < 0 := by rw [nk, if_neg h2]; decide
            rw [if_pos n0, if_pos ⟨h0, hkn, Or.inl (by omega)⟩]
            have := ih n (k + 1) k (by omega) (by omega) (by omega) (fun _ => h)
            rw [nk, if_pos (by omega)] at this
            exact this
        · have hkn : ¬ knb g k = true := by simp [knb, h]
          rw [if_neg h, lm_bd_some, lm_br, if_pos (by decide), if_neg (fun q => hkn q.2.1)]
          exact ih n (k + 1) b (by omega) (by omega) hb hb2
theorem o_first (hM : Mo μ g) (hK : Kc g) {sp : Nat} {but : Int32} (hsp : (sp < 10 ∧ but = nI sp) ∨ (10 ≤ sp ∧ but = -4)) : F_X7_first μ but = some (nk (-4) (fir g sp)) := by
  unfold F_X7_first
  exact o_first_L hM hK hsp 10 1000 0 10 (by omega) (by omega) (by omega) (by omega)
theorem pD_spec (kn : Nat → Bool) (a : Nat → Nat → Bool) (sp : Nat) : ∀ d k b, k + d = 10 → b ≤ 10 → (b < 10 → b ≠ sp ∧ kn b = true) → (pD kn a sp d k b ≤ 10 ∧ (pD kn a sp d k b < 10 → pD kn a sp d k b ≠ sp ∧ kn (pD kn a sp d k b) = true) ∧ (pD kn a sp d k b = 10 → b = 10 ∧ ∀ j, k ≤ j → j < 10 → ¬ (j ≠ sp ∧ kn j = true))) := by
  intro d
  induction d with
  | zero =>
    intro k b hk hb h
    rw [pD]
    exact ⟨hb, h, fun e => ⟨e, fun j h1 h2 => by omega⟩⟩
  | succ d ih =>
    intro k b hk hb h
    rw [pD]
    by_cases c : k ≠ sp ∧ kn k = true ∧ (10 ≤ b ∨ a k b = true)
    · rw [if_pos c]
      obtain ⟨i1, i2, i3⟩ := ih (k + 1) k (by omega) (by omega) (fun _ => ⟨c.1, c.2.1⟩)
      exact ⟨i1, i2, fun e => by have := (i3 e).1; omega⟩
    · rw [if_neg c]
      obtain ⟨i1, i2, i3⟩ := ih (k + 1) b (by omega) hb h
      refine ⟨i1, i2, fun e => ?_⟩
      obtain ⟨e1, e2⟩ := i3 e
      refine ⟨e1, fun j h1 h2 => ?_⟩
      rcases Nat.lt_or_ge k j with q | q
      · exact e2 j q h2
      · have : j = k := by omega
        subst this
        exact fun q => c ⟨q.1, q.2, Or.inl (by omega)⟩
theorem pD_congr (kn : Nat → Bool) (a a' : Nat → Nat → Bool) (sp : Nat) (h : ∀ j k, j < 10 → k < 10 → kn j = true → kn k = true → a j k = a' j k) : ∀ d k b, k + d = 10 → b ≤ 10 → (b < 10 → kn b = true) → pD kn a sp d k b = pD kn a' sp d k b := by
  intro d
  induction d with
  | zero => intro k b _ _ _; rfl
  | succ d ih =>
    intro k b hk hb h2
    rw [pD, pD]
    have e : (if k ≠ sp ∧ kn k = true ∧ (10 ≤ b ∨ a k b = true) then k else b) = (if k ≠ sp ∧ kn k = true ∧ (10 ≤ b ∨ a' k b = true) then k else b) := by
      by_cases c : kn k = true
      · by_cases b10 : b < 10
        · rw [h k b (by omega) b10 c (h2 b10)]
        · have : 10 ≤ b := by omega
          simp [this]
      · simp [c]
    rw [e]
    apply ih
    · omega
    · split <;> omega
    · split
      · next c => exact fun _ => c.2.1
      · exact h2
end OM
