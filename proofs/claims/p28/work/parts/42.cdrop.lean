/-! the class: taking a row out -/
section CD3
variable {g : Nat → Nat}
theorem c_put {τ : Hp} {r : Nat} (h : r < 20) (x y : Int32) : F_X5_put τ (nI r) x y = some (lm_u (lm_u τ 1 r x) 2 r y) := by
  unfold F_X5_put
  simp (disch := omega) only [lm_br, lm_bd_some, lm_b2_some, lm_lt_eq, ev_gi, ev_cl, ev_add, ev_mul, ev_sub, ev_lt_t, ev_lt_f, ev_le_t, ev_le_f, ev_eq_t, ev_eq_f, if_true, if_false, ite_true, ite_false, not_true, not_false_eq_true, eq_self, and_self, and_true, true_and, and_false, false_and, or_true, true_or, or_false, false_or, Bool.false_eq_true, reduceIte, ev_k0, ev_k1, ev_k2, ev_k3, ev_k4, ev_k5, ev_k6, ev_k7, ev_k8, ev_k9, ev_k10, ev_k11, ev_k12, ev_k13, ev_k14, ev_k15, ev_k16, ev_k17, ev_k18, ev_k19, ev_k20, ev_k33, ev_k43, ev_k44, ev_k45, ev_k48, ev_k57, ev_k58, ev_k59, ev_k60, ev_k97, ev_k99, ev_k107, ev_k114, ev_k115, ev_k117, ev_k124, ev_k126, ev_k127, ev_k381, ev_k508]
theorem c_takeOut_L {τ : Hp} {n r : Nat} (hn : n ≤ 20) : ∀ d m i (τ' : Hp), τ' 0 2 = nI n → (∀ j, τ' 1 j = if r ≤ j ∧ j < i then τ 1 (j + 1) else τ 1 j) → (∀ j, τ' 2 j = if r ≤ j ∧ j < i then τ 2 (j + 1) else τ 2 j) → r ≤ i → i + d + 1 = n → d < m → ∃ τ2, F_X5_takeOut_L11 m τ' (nI i) = some τ2 ∧ τ2 0 2 = nI (n - 1) ∧ (∀ j, τ2 1 j = if r ≤ j ∧ j < n - 1 then τ 1 (j + 1) else τ 1 j) ∧ (∀ j, τ2 2 j = if r ≤ j ∧ j < n - 1 then τ 2 (j + 1) else τ 2 j) := by
  intro d
  induction d with
  | zero =>
    intro m i τ' h0 h1 h2 hr hi hm
    cases m with
    | zero => omega
    | succ m =>
      have e : i = n - 1 := by omega
      rw [F_X5_takeOut_L11, h0, ev_k1, pk_sub (by omega), lm_br, if_pos (nI_le (by omega) (by omega)), lm_lt_eq]
      refine ⟨_, rfl, lu_same _ _ _ _, fun j => ?_, fun j => ?_⟩
      · rw [lu_c _ _ _ (by omega), h1 j, e]
      · rw [lu_c _ _ _ (by omega), h2 j, e]
  | succ d ih =>
    intro m i τ' h0 h1 h2 hr hi hm
    cases m with
    | zero => omega
    | succ m =>
      have s1 : τ' 1 (i + 1) = τ 1 (i + 1) := by rw [h1, if_neg (by omega)]
      have s2 : τ' 2 (i + 1) = τ 2 (i + 1) := by rw [h2, if_neg (by omega)]
      rw [F_X5_takeOut_L11, h0, ev_k1, pk_sub (by omega), lm_br, if_neg (nI_ge (by omega) (by omega)), ev_add, c_key (by omega), lm_bd_some, c_value (by omega), lm_bd_some, c_put (by omega), lm_bd_some, s1, s2]
      refine ih m (i + 1) _ ?_ (fun j => ?_) (fun j => ?_) (by omega) (by omega) (by omega)
      · rw [lu_c _ _ _ (by omega), lu_c _ _ _ (by omega)]; exact h0
      · rw [lu_c _ _ _ (by omega)]
        by_cases q : j = i
        · subst q
          rw [lu_same, if_pos (by omega)]
        · rw [lu_ne _ _ q, h1 j]
          by_cases w : r ≤ j ∧ j < i
          · rw [if_pos w, if_pos (by omega)]
          · rw [if_neg w, if_neg (by omega)]
      · by_cases q : j = i
        · subst q
          rw [lu_same, if_pos (by omega)]
        · rw [lu_ne _ _ q, lu_c _ _ _ (by omega), h2 j]
          by_cases w : r ≤ j ∧ j < i
          · rw [if_pos w, if_pos (by omega)]
          · rw [if_neg w, if_neg (by omega)]
theorem c_has {τ : Hp} {n r : Nat} (h : τ 0 2 = nI n) (hn : n ≤ 20) (hr : r < 2147483648) : F_X5_has τ (nI r) = some (if r < n then nI 1 else nI 0) := by
  unfold F_X5_has
  rw [h]
  by_cases q : r < n
  · simp (disch := omega) only [lm_br, lm_bd_some, lm_b2_some, lm_lt_eq, ev_gi, ev_cl, ev_add, ev_mul, ev_sub, ev_lt_t, ev_lt_f, ev_le_t, ev_le_f, ev_eq_t, ev_eq_f, if_true, if_false, ite_true, ite_false, not_true, not_false_eq_true, eq_self, and_self, and_true, true_and, and_false, false_and, or_true, true_or, or_false, false_or, Bool.false_eq_true, reduceIte, ev_k0, ev_k1, ev_k2, ev_k3, ev_k4, ev_k5, ev_k6, ev_k7, ev_k8, ev_k9, ev_k10, ev_k11, ev_k12, ev_k13, ev_k14, ev_k15, ev_k16, ev_k17, ev_k18, ev_k19, ev_k20, ev_k33, ev_k43, ev_k44, ev_k45, ev_k48, ev_k57, ev_k58, ev_k59, ev_k60, ev_k97, ev_k99, ev_k107, ev_k114, ev_k115, ev_k117, ev_k124, ev_k126, ev_k127, ev_k381, ev_k508, q]
  · simp (disch := omega) only [lm_br, lm_bd_some, lm_b2_some, lm_lt_eq, ev_gi, ev_cl, ev_add, ev_mul, ev_sub, ev_lt_t, ev_lt_f, ev_le_t, ev_le_f, ev_eq_t, ev_eq_f, if_true, if_false, ite_true, ite_false, not_true, not_false_eq_true, eq_self, and_self, and_true, true_and, and_false, false_and, or_true, true_or, or_false, false_or, Bool.false_eq_true, reduceIte, ev_k0, ev_k1, ev_k2, ev_k3, ev_k4, ev_k5, ev_k6, ev_k7, ev_k8, ev_k9, ev_k10, ev_k11, ev_k12, ev_k13, ev_k14, ev_k15, ev_k16, ev_k17, ev_k18, ev_k19, ev_k20, ev_k33, ev_k43, ev_k44, ev_k45, ev_k48, ev_k57, ev_k58, ev_k59, ev_k60, ev_k97, ev_k99, ev_k107, ev_k114, ev_k115, ev_k117, ev_k124, ev_k126, ev_k127, ev_k381, ev_k508, q]
theorem c_takeOut {τ : Hp} {n r : Nat} (h : τ 0 2 = nI n) (hn : n ≤ 20) (hr : r < n) : ∃ τ2, F_X5_takeOut τ (nI r) = some τ2 ∧ τ2 0 2 = nI (n - 1) ∧ (∀ j, τ2 1 j = if r ≤ j ∧ j < n - 1 then τ 1 (j + 1) else τ 1 j) ∧ (∀ j, τ2 2 j = if r ≤ j ∧ j < n - 1 then τ 2 (j + 1) else τ 2 j) := by
  unfold F_X5_takeOut
  rw [c_has h hn (by omega), if_pos hr, lm_bd_some, lm_br, if_pos (by decide)]
  exact c_takeOut_L (τ := τ) (r := r) hn (n - 1 - r) 1000 r τ h (fun j => by rw [if_neg (by omega)]) (fun j => by rw [if_neg (by omega)]) (by omega) (by omega) (by omega)
theorem c_rem0 {σ : Hp} {t c : Nat} (hC : Cn σ g) (hI : In t c g) {r : Nat} (hr : r < g 6) : ∃ σ', F_X4_removeRow σ 0 (nI r) = some (nI (g 6 - 1), σ') ∧ Cn σ' (drO g r) := by
  obtain ⟨hT, ha, hy, hm⟩ := id hC
  obtain ⟨⟨i1, i2⟩, ⟨u1, u2⟩, ⟨p1, p2⟩, s1'⟩ := id hT
  have h6 := hI.2.1.1
  have h7 := hI.2.1.2.1
  have h5 := hI.1.1
  have u1' : lm_sh 1 σ 0 2 = nI (g 6) := u1
  obtain ⟨τ2, t1, t2, t3, t4⟩ := c_takeOut u1' h6 hr
  have e : ∀ j, j ≠ 6 → j ≠ 7 → ¬ (57 ≤ j ∧ j < 97) → drO g r j = g j := fun j a b c => drO_e g h6 a b c
  have hTq : Teq g (drO g r) := ⟨e 5 (by omega) (by omega) (by omega), e 3 (by omega) (by omega) (by omega), e 4 (by omega) (by omega) (by omega), fun i hi => ⟨e _ (by omega) (by omega) (by omega), e _ (by omega) (by omega) (by omega)⟩⟩
  have hz : lm_sh 1 (lm_sb σ 1 3 τ2) 0 2 = nI (g 6 - 1) := by
    show lm_sb σ 1 3 _ (1 + 0) 2 = _
    rw [sb_in _ _ (by omega), t2]
  have hp : (lm_sb σ 1 3 τ2) 0 6 = nI (g 7) := by rw [sb_out _ _ (by omega)]; exact p1
  -- what is true of any state that has these cells
  have key : ∀ σ' : Hp, (∀ j, j ≠ 0 → σ' j = lm_sb σ 1 3 τ2 j) → σ' 0 6 = nI (drO g r 7) → σ' 0 7 = nI (g 8) → Cn σ' (drO g r) := fun σ' hs q6 q7 => by
    have hcell : ∀ j, j ≠ 0 → ¬ (1 ≤ j ∧ j < 4) → σ' j = σ j := fun j a b => by rw [hs j a, sb_out _ _ (by omega)]
    have c1 : σ' 1 = τ2 0 := by rw [hs 1 (by omega)]; exact sb_in (c := 0) _ _ (by omega)
    have c2 : σ' 2 = τ2 1 := by rw [hs 2 (by omega)]; exact sb_in (c := 1) _ _ (by omega)
    have c3 : σ' 3 = τ2 2 := by rw [hs 3 (by omega)]; exact sb_in (c := 2) _ _ (by omega)
    refine ⟨⟨⟨?_, fun i hi => ?_⟩, ⟨?_, fun i hi => ?_⟩, ⟨q6, ?_⟩, fun j hj => ?_⟩, fun j hj => ?_, fun j hj => ?_, ?_⟩
    · rw [hcell 4 (by omega) (by omega), e 5 (by omega) (by omega) (by omega)]; exact i1
    · rw [e 5 (by omega) (by omega) (by omega)] at hi
      rw [hcell 5 (by omega) (by omega), hcell 6 (by omega) (by omega), e _ (by omega) (by omega) (by omega), e _ (by omega) (by omega) (by omega)]
      exact i2 i hi
    · rw [c1, t2, drO_6]
    · rw [drO_6] at hi
      rw [c2, c3, t3, t4, (drO_row g hi).1, (drO_row g hi).2]
      by_cases q : r ≤ i
      · have w : r ≤ i ∧ i < g 6 - 1 := ⟨q, hi⟩
        rw [if_pos w, if_pos w, if_pos q]
        exact u2 (i + 1) (by omega)
      · have w : ¬ (r ≤ i ∧ i < g 6 - 1) := fun z => q z.1
        rw [if_neg w, if_neg w, if_neg q]
        exact u2 i (by omega)
    · rw [q7, e 8 (by omega) (by omega) (by omega)]
    · rw [hcell 15 (by omega) (by omega), e j (by omega) (by omega) (by omega)]; exact s1' j hj
    · rw [hTq.cnt, hTq.sm, hTq.fs, hcell 8 (by omega) (by omega), hcell 9 (by omega) (by omega), hcell 10 (by omega) (by omega)]
      exact ha j hj
    · rw [hcell 16 (by omega) (by omega), e 11 (by omega) (by omega) (by omega), e (9 + j) (by omega) (by omega) (by omega)]
      exact hy j hj
    · obtain ⟨q, l, f, d1, d2, d3, d4⟩ := hm
      refine ⟨q, l, f, by rw [hcell 11 (by omega) (by omega)]; exact d1, by rw [e _ (by omega) (by omega) (by omega)]; exact d2, fun i hi => ?_, fun i j hi hj => ?_⟩
      · rw [hcell 12 (by omega) (by omega), hcell 13 (by omega) (by omega), hcell 14 (by omega) (by omega), e _ (by omega) (by omega) (by omega)]
        exact d3 i hi
      · rw [e _ (by omega) (by omega) (by omega), e _ (by omega) (by omega) (by omega), e _ (by omega) (by omega) (by omega), e _ (by omega) (by omega) (by omega), e _ (by omega) (by omega) (by omega), e _ (by omega) (by omega) (by omega)]
        exact d4 i j hi hj
  have hgo : F_X4_removeRow σ 0 (nI r) = (lm_bd (F_X4_isDone (lm_sb σ 1 3 τ2) (nI r)) fun r8 =>
    lm_br (r8 = 0)
     (lm_bd (F_X5_size (lm_sh 1 (lm_sb σ 1 3 τ2))) fun r10 =>
     some (r10, (lm_sb σ 1 3 τ2)))
     (lm_lt (lm_u (lm_sb σ 1 3 τ2) 0 6 (((lm_sb σ 1 3 τ2) 0 6) - (1 : Int32))) fun σ11 =>
     lm_bd (F_X5_size (lm_sh 1 σ11)) fun r12 =>
     some (r12, σ11))) := by
    unfold F_X4_removeRow
    rw [lm_br, if_pos rfl, c_has u1' h6 (by omega), if_pos hr, lm_bd_some, lm_br, if_pos (by decide), c_key (by omega), lm_bd_some, t1, lm_bd_some, lm_lt_eq]
  rw [hgo]
  unfold F_X4_isDone
  rw [hp]
  by_cases q : r < g 7
  · rw [lm_br, if_neg (nI_ge q (by omega)), lm_bd_some, lm_br, if_neg (by decide), lm_lt_eq, c_size, lm_bd_some, ev_k1, pk_sub (by omega)]
    refine ⟨_, ?_, key (lm_u (lm_sb σ 1 3 τ2) 0 6 (nI (g 7 - 1))) (fun j hj => lu_c _ _ _ hj) ?_ ?_⟩
    · have : lm_sh 1 (lm_u (lm_sb σ 1 3 τ2) 0 6 (nI (g 7 - 1))) 0 2 = nI (g 6 - 1) := by
        show (lm_u (lm_sb σ 1 3 τ2) 0 6 (nI (g 7 - 1))) (1 + 0) 2 = _
        rw [lu_c _ _ _ (by omega)]
        exact hz
      rw [this]
    · rw [lu_same, drO_7, if_pos q]
    · rw [lu_ne _ _ (by omega), sb_out _ _ (by omega)]
      exact p2
  · rw [lm_br, if_pos (nI_le (by omega) (by omega)), lm_bd_some, lm_br, if_pos (by decide), c_size, lm_bd_some, hz]
    refine ⟨_, rfl, key _ (fun j _ => rfl) ?_ ?_⟩
    · rw [hp, drO_7, if_neg q, Nat.sub_zero]
    · rw [sb_out _ _ (by omega)]
      exact p2
theorem c_rem1 {σ : Hp} {t c : Nat} (hC : Cn σ g) (hI : In t c g) {x1 : Int32} (hx : ¬ x1 = 0) {r : Nat} (hr : r < g 5) : ∃ σ', F_X4_removeRow σ x1 (nI r) = some (nI (g 5 - 1), σ') ∧ Cn σ' (kp (drI g r) (g (17 + 2 * r)) (g (17 + 2 * r))) := by
  obtain ⟨hT, ha, hy, hm⟩ := id hC
  obtain ⟨⟨i1, i2⟩, ⟨u1, u2⟩, ⟨p1, p2⟩, s1'⟩ := id hT
  have h6 := hI.2.1.1
  have h5 := hI.1.1
  have hJ := drI_In hI hr
  have i1' : lm_sh 4 σ 0 2 = nI (g 5) := i1
  obtain ⟨τ2, t1, t2, t3, t4⟩ := c_takeOut i1' h5 hr
  have e : ∀ j, j ≠ 5 → ¬ (17 ≤ j ∧ j < 57) → drI g r j = g j := fun j a c => drI_e g h5 a c
  have ek : lm_sh 4 σ 1 r = nI (g (17 + 2 * r)) := (i2 r hr).1
  have hcell : ∀ j, ¬ (4 ≤ j ∧ j < 7) → lm_sb σ 4 3 τ2 j = σ j := fun j hj => sb_out _ _ (by omega)
  have c1 : lm_sb σ 4 3 τ2 4 = τ2 0 := sb_in (c := 0) _ _ (by omega)
  have c2 : lm_sb σ 4 3 τ2 5 = τ2 1 := sb_in (c := 1) _ _ (by omega)
  have c3 : lm_sb σ 4 3 τ2 6 = τ2 2 := sb_in (c := 2) _ _ (by omega)
  have hT' : Ct (lm_sb σ 4 3 τ2) (drI g r) := by
    refine ⟨⟨?_, fun i hi => ?_⟩, ⟨?_, fun i hi => ?_⟩, ⟨?_, ?_⟩, fun j hj => ?_⟩
    · rw [c1, t2, drI_5]
    · rw [drI_5] at hi
      rw [c2, c3, t3, t4, (drI_row g hi).1, (drI_row g hi).2]
      by_cases q : r ≤ i
      · have w : r ≤ i ∧ i < g 5 - 1 := ⟨q, hi⟩
        rw [if_pos w, if_pos w, if_pos q]
        exact i2 (i + 1) (by omega)
      · have w : ¬ (r ≤ i ∧ i < g 5 - 1) := fun z => q z.1
        rw [if_neg w, if_neg w, if_neg q]
        exact i2 i (by omega)
    · rw [hcell 1 (by omega), e 6 (by omega) (by omega)]; exact u1
    · rw [e 6 (by omega) (by omega)] at hi
      rw [hcell 2 (by omega), hcell 3 (by omega), e _ (by omega) (by omega), e _ (by omega) (by omega)]
      exact u2 i hi
    · rw [hcell 0 (by omega), e 7 (by omega) (by omega)]; exact p1
    · rw [hcell 0 (by omega), e 8 (by omega) (by omega)]; exact p2
    · rw [hcell 15 (by omega), e j (by omega) (by omega)]; exact s1' j hj
  have hy' : Cy (lm_sb σ 4 3 τ2) (drI g r) (drI g r 11) := fun j hj => by
    rw [hcell 16 (by omega), e 11 (by omega) (by omega), e (9 + j) (by omega) (by omega)]
    exact hy j hj
  have hm' : Cm (lm_sb σ 4 3 τ2) (drI g r) := by
    obtain ⟨q, l, f, d1, d2, d3, d4⟩ := hm
    refine ⟨q, l, f, by rw [hcell 11 (by omega)]; exact d1, by rw [e _ (by omega) (by omega)]; exact d2, fun i hi => ?_, fun i j hi hj => ?_⟩
    · rw [hcell 12 (by omega), hcell 13 (by omega), hcell 14 (by omega), e _ (by omega) (by omega)]
      exact d3 i hi
    · rw [e _ (by omega) (by omega), e _ (by omega) (by omega), e _ (by omega) (by omega), e _ (by omega) (by omega), e _ (by omega) (by omega), e _ (by omega) (by omega)]
      exact d4 i j hi hj
  obtain ⟨jR, jO, jK, ⟨-, -, j2⟩, -, j16, -, jc⟩ := id hJ
  have hk := (hI.1.2.2.2 r hr).1
  obtain ⟨σ', k1, k2⟩ := c_keepTrue hT' hy' hm' jR jO jK (by omega) j2 hk hk
  have k5 : lm_sh 4 σ' 0 2 = nI (g 5 - 1) := by
    have := k2.1.1.1
    rw [kp_Sm _ _ _ 5 (by omega) (by omega), drI_5] at this
    exact this
  refine ⟨σ', ?_, Cn_kp k2⟩
  unfold F_X4_removeRow
  rw [lm_br, if_neg hx, c_has i1' h5 (by omega), if_pos hr, lm_bd_some, lm_br, if_pos (by decide), c_key (by omega), lm_bd_some, t1, lm_bd_some, lm_lt_eq, ek, k1, lm_bd_some, c_size, lm_bd_some, k5]
end CD3

