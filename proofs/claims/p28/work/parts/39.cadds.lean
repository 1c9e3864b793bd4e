/-! the class: adding a row -/
section CA2
variable {g : Nat → Nat}
theorem c_row {k v : Nat} (hk : k < 2147483648) (hv : v < 2147483648) : F_X6_isRow (nI k) (nI v) = some (if k ≤ 9 ∧ v ≤ 99 then nI 1 else nI 0) := by
  unfold F_X6_isRow F_X6_isKey F_X6_isWithin
  by_cases q : k ≤ 9
  · by_cases w : v ≤ 99
    · rw [if_pos ⟨q, w⟩]
      rw [show (0 : Int32) = nI 0 from rfl, show (1 : Int32) = nI 1 from rfl, show (9 : Int32) = nI 9 from rfl, show (99 : Int32) = nI 99 from rfl]
      simp (disch := omega) only [lm_br, lm_bd_some, ev_lt_f, if_false, ite_false, lm_gd, or_true, true_or, or_false, false_or, not_true, ev_eq_f, reduceIte, ev_lt_t, if_true]
    · rw [if_neg (fun z => w z.2)]
      rw [show (0 : Int32) = nI 0 from rfl, show (1 : Int32) = nI 1 from rfl, show (9 : Int32) = nI 9 from rfl, show (99 : Int32) = nI 99 from rfl]
      simp (disch := omega) only [lm_br, lm_bd_some, ev_lt_f, if_false, ite_false, lm_gd, or_true, true_or, or_false, false_or, not_true, ev_eq_f, reduceIte, ev_lt_t, if_true]
  · rw [if_neg (fun z => q z.1)]
    rw [show (0 : Int32) = nI 0 from rfl, show (1 : Int32) = nI 1 from rfl, show (9 : Int32) = nI 9 from rfl, show (99 : Int32) = nI 99 from rfl]
    simp (disch := omega) only [lm_br, lm_bd_some, ev_lt_f, if_false, ite_false, lm_gd, or_true, true_or, or_false, false_or, not_true, ev_eq_f, reduceIte, ev_lt_t, if_true]
theorem c_ins0 {σ : Hp} {t c : Nat} (hC : Cn σ g) (hI : In t c g) {k v : Nat} (hk : k < 10) (hv : v ≤ 99) (h6 : g 6 < 20) : ∃ σ', F_X4_insertRow σ 0 (nI k) (nI v) = some (nI (g 6), σ') ∧ Cn σ' (adO g k v) := by
  obtain ⟨hT, ha, hy, hm⟩ := id hC
  obtain ⟨⟨i1, i2⟩, ⟨u1, u2⟩, ⟨p1, p2⟩, s1'⟩ := id hT
  have u1' : lm_sh 1 σ 0 2 = nI (g 6) := u1
  have hp := c_push (k := k) (v := v) u1' h6
  have e5 : ∀ τ : Hp, lm_sh 1 (lm_sb σ 1 3 (lm_u τ 0 2 (nI (g 6 + 1)))) 0 2 = nI (g 6 + 1) := fun τ => by
    show lm_sb σ 1 3 _ (1 + 0) 2 = _
    rw [sb_in _ _ (by omega), lu_same]
  refine ⟨lm_sb σ 1 3 (lm_u (lm_u (lm_u (lm_sh 1 σ) 1 (g 6) (nI k)) 2 (g 6) (nI v)) 0 2 (nI (g 6 + 1))), ?_, ?_⟩
  · unfold F_X4_insertRow
    rw [c_row (by omega) (by omega), if_pos ⟨by omega, by omega⟩, lm_bd_some, lm_br, if_pos (by decide), lm_br, if_pos rfl, c_size, lm_bd_some, u1', lm_br, ev_k20, if_pos (nI_lt h6 (by omega)), hp, lm_bd_some, lm_lt_eq, c_size, lm_bd_some, e5, ev_k1, pk_sub (by omega), Nat.add_sub_cancel]
  · have hcell : ∀ j, ¬ (1 ≤ j ∧ j < 4) → lm_sb σ 1 3 (lm_u (lm_u (lm_u (lm_sh 1 σ) 1 (g 6) (nI k)) 2 (g 6) (nI v)) 0 2 (nI (g 6 + 1))) j = σ j := fun j hj => sb_out _ _ (by omega)
    have e : ∀ j, j ≠ 6 → ¬ (57 ≤ j ∧ j < 97) → adO g k v j = g j := fun j a b => by
      unfold adO
      rw [un_ne _ _ a, un_ne _ _ (by omega), un_ne _ _ (by omega)]
    have hTq : Teq g (adO g k v) := ⟨e 5 (by omega) (by omega), e 3 (by omega) (by omega), e 4 (by omega) (by omega), fun i hi => by have := hI.1.1; exact ⟨e _ (by omega) (by omega), e _ (by omega) (by omega)⟩⟩
    refine ⟨⟨⟨?_, fun i hi => ?_⟩, ⟨?_, fun i hi => ?_⟩, ⟨?_, ?_⟩, fun j hj => ?_⟩, fun j hj => ?_, fun j hj => ?_, ?_⟩
    · rw [hcell 4 (by omega), e 5 (by omega) (by omega)]; exact i1
    · have := hI.1.1
      rw [e 5 (by omega) (by omega)] at hi
      rw [hcell 5 (by omega), hcell 6 (by omega), e _ (by omega) (by omega), e _ (by omega) (by omega)]
      exact i2 i hi
    · show lm_sb σ 1 3 _ (1 + 0) 2 = _
      rw [sb_in _ _ (by omega), lu_same]
      unfold adO
      rw [un_same]
    · have hi' : i < g 6 + 1 := by
        unfold adO at hi
        rw [un_same] at hi
        exact hi
      have l1 : lm_sb σ 1 3 (lm_u (lm_u (lm_u (lm_sh 1 σ) 1 (g 6) (nI k)) 2 (g 6) (nI v)) 0 2 (nI (g 6 + 1))) 2 i = if i = g 6 then nI k else σ 2 i := by
        show lm_sb σ 1 3 _ (1 + 1) i = _
        rw [sb_in _ _ (by omega), lu_c _ _ _ (by omega), lu_c _ _ _ (by omega)]
        split
        · rename_i q; rw [q, lu_same]
        · rename_i q; rw [lu_ne _ _ q]; rfl
      have l2 : lm_sb σ 1 3 (lm_u (lm_u (lm_u (lm_sh 1 σ) 1 (g 6) (nI k)) 2 (g 6) (nI v)) 0 2 (nI (g 6 + 1))) 3 i = if i = g 6 then nI v else σ 3 i := by
        show lm_sb σ 1 3 _ (1 + 2) i = _
        rw [sb_in _ _ (by omega), lu_c _ _ _ (by omega)]
        split
        · rename_i q; rw [q, lu_same]
        · rename_i q; rw [lu_ne _ _ q, lu_c _ _ _ (by omega)]; rfl
      rw [l1, l2]
      unfold adO
      by_cases q : i = g 6
      · rw [if_pos q, if_pos q]
        subst q
        rw [un_ne _ _ (by omega), un_ne _ _ (by omega), un_same, un_ne _ _ (by omega), show 58 + 2 * g 6 = 57 + 2 * g 6 + 1 by omega, un_same]
        exact ⟨rfl, rfl⟩
      · rw [if_neg q, if_neg q, un_ne _ _ (by omega), un_ne _ _ (by omega), un_ne _ _ (by omega), un_ne _ _ (by omega), un_ne _ _ (by omega), un_ne _ _ (by omega)]
        exact u2 i (by omega)
    · rw [hcell 0 (by omega), e 7 (by omega) (by omega)]; exact p1
    · rw [hcell 0 (by omega), e 8 (by omega) (by omega)]; exact p2
    · rw [hcell 15 (by omega), e j (by omega) (by omega)]; exact s1' j hj
    · rw [hTq.cnt, hTq.sm, hTq.fs, hcell 8 (by omega), hcell 9 (by omega), hcell 10 (by omega)]
      exact ha j hj
    · rw [hcell 16 (by omega), e 11 (by omega) (by omega), e (9 + j) (by omega) (by omega)]
      exact hy j hj
    · exact Cm_cells (Cm_un (Cm_un (Cm_un hm _ (by omega)) _ (by omega)) _ (by omega)) (fun c hc => hcell c (by omega))
theorem Cn_kp {σ : Hp} {a b : Nat} (h : Cs σ (kp g a b) (g 11)) : Cn σ (kp g a b) := by
  unfold Cn
  rw [kp_hi g a b (by omega)]
  exact h
theorem c_ins1 {σ : Hp} {t c : Nat} (hC : Cn σ g) (hI : In t c g) {x1 : Int32} (hx : ¬ x1 = 0) {k v : Nat} (hk : k < 10) (hv : v ≤ 99) (h5 : g 5 < 20) : ∃ σ', F_X4_insertRow σ x1 (nI k) (nI v) = some (nI (g 5), σ') ∧ Cn σ' (kp (adI g k v) k k) := by
  obtain ⟨hT, ha, hy, hm⟩ := id hC
  obtain ⟨⟨i1, i2⟩, ⟨u1, u2⟩, ⟨p1, p2⟩, s1'⟩ := id hT
  have i1' : lm_sh 4 σ 0 2 = nI (g 5) := i1
  have hp := c_push (k := k) (v := v) i1' h5
  have hJ := adI_In hI hk hv h5
  have hcell : ∀ j, ¬ (4 ≤ j ∧ j < 7) → lm_sb σ 4 3 (lm_u (lm_u (lm_u (lm_sh 4 σ) 1 (g 5) (nI k)) 2 (g 5) (nI v)) 0 2 (nI (g 5 + 1))) j = σ j := fun j hj => sb_out _ _ (by omega)
  have e : ∀ j, j ≠ 5 → ¬ (17 ≤ j ∧ j < 57) → adI g k v j = g j := fun j a b => by
    unfold adI
    rw [un_ne _ _ a, un_ne _ _ (by omega), un_ne _ _ (by omega)]
  have hT' : Ct (lm_sb σ 4 3 (lm_u (lm_u (lm_u (lm_sh 4 σ) 1 (g 5) (nI k)) 2 (g 5) (nI v)) 0 2 (nI (g 5 + 1)))) (adI g k v) := by
    refine ⟨⟨?_, fun i hi => ?_⟩, ⟨?_, fun i hi => ?_⟩, ⟨?_, ?_⟩, fun j hj => ?_⟩
    · show lm_sb σ 4 3 _ (4 + 0) 2 = _
      rw [sb_in _ _ (by omega), lu_same]
      unfold adI
      rw [un_same]
    · have hi' : i < g 5 + 1 := by
        unfold adI at hi
        rw [un_same] at hi
        exact hi
      have l1 : lm_sb σ 4 3 (lm_u (lm_u (lm_u (lm_sh 4 σ) 1 (g 5) (nI k)) 2 (g 5) (nI v)) 0 2 (nI (g 5 + 1))) 5 i = if i = g 5 then nI k else σ 5 i := by
        show lm_sb σ 4 3 _ (4 + 1) i = _
        rw [sb_in _ _ (by omega), lu_c _ _ _ (by omega), lu_c _ _ _ (by omega)]
        split
        · rename_i q; rw [q, lu_same]
        · rename_i q; rw [lu_ne _ _ q]; rfl
      have l2 : lm_sb σ 4 3 (lm_u (lm_u (lm_u (lm_sh 4 σ) 1 (g 5) (nI k)) 2 (g 5) (nI v)) 0 2 (nI (g 5 + 1))) 6 i = if i = g 5 then nI v else σ 6 i := by
        show lm_sb σ 4 3 _ (4 + 2) i = _
        rw [sb_in _ _ (by omega), lu_c _ _ _ (by omega)]
        split
        · rename_i q; rw [q, lu_same]
        · rename_i q; rw [lu_ne _ _ q, lu_c _ _ _ (by omega)]; rfl
      rw [l1, l2]
      unfold adI
      by_cases q : i = g 5
      · rw [if_pos q, if_pos q]
        subst q
        rw [un_ne _ _ (by omega), un_ne _ _ (by omega), un_same, un_ne _ _ (by omega), show 18 + 2 * g 5 = 17 + 2 * g 5 + 1 by omega, un_same]
        exact ⟨rfl, rfl⟩
      · rw [if_neg q, if_neg q, un_ne _ _ (by omega), un_ne _ _ (by omega), un_ne _ _ (by omega), un_ne _ _ (by omega), un_ne _ _ (by omega), un_ne _ _ (by omega)]
        exact i2 i (by omega)
    · rw [hcell 1 (by omega), e 6 (by omega) (by omega)]; exact u1
    · have := hI.2.1.1
      rw [e 6 (by omega) (by omega)] at hi
      rw [hcell 2 (by omega), hcell 3 (by omega), e _ (by omega) (by omega), e _ (by omega) (by omega)]
      exact u2 i hi
    · rw [hcell 0 (by omega), e 7 (by omega) (by omega)]; exact p1
    · rw [hcell 0 (by omega), e 8 (by omega) (by omega)]; exact p2
    · rw [hcell 15 (by omega), e j (by omega) (by omega)]; exact s1' j hj
  have hy' : Cy (lm_sb σ 4 3 (lm_u (lm_u (lm_u (lm_sh 4 σ) 1 (g 5) (nI k)) 2 (g 5) (nI v)) 0 2 (nI (g 5 + 1)))) (adI g k v) (adI g k v 11) := fun j hj => by
    rw [hcell 16 (by omega), e 11 (by omega) (by omega), e (9 + j) (by omega) (by omega)]
    exact hy j hj
  have hm' : Cm (lm_sb σ 4 3 (lm_u (lm_u (lm_u (lm_sh 4 σ) 1 (g 5) (nI k)) 2 (g 5) (nI v)) 0 2 (nI (g 5 + 1)))) (adI g k v) := Cm_cells (Cm_un (Cm_un (Cm_un hm _ (by omega)) _ (by omega)) _ (by omega)) (fun c hc => hcell c (by omega))
  obtain ⟨jR, jO, jK, ⟨-, -, j2⟩, -, j16, -, jc⟩ := id hJ
  obtain ⟨σ', k1, k2⟩ := c_keepTrue hT' hy' hm' jR jO jK (by omega) j2 hk hk
  have k5 : lm_sh 4 σ' 0 2 = nI (g 5 + 1) := by
    have := k2.1.1.1
    rw [kp_Sm _ k k 5 (by omega) (by omega)] at this
    show σ' 4 2 = _
    rw [this]
    unfold adI
    rw [un_same]
  refine ⟨σ', ?_, Cn_kp k2⟩
  unfold F_X4_insertRow
  rw [c_row (by omega) (by omega), if_pos ⟨by omega, by omega⟩, lm_bd_some, lm_br, if_pos (by decide), lm_br, if_neg hx, c_size, lm_bd_some, i1', lm_br, ev_k20, if_pos (nI_lt h5 (by omega)), hp, lm_bd_some, lm_lt_eq, k1, lm_bd_some, c_size, lm_bd_some, k5, ev_k1, pk_sub (by omega), Nat.add_sub_cancel]
theorem c_insFull0 {σ : Hp} (hC : Cn σ g) (h6 : g 6 = 20) {k v : Nat} (hk : k < 10) (hv : v ≤ 99) : F_X4_insertRow σ 0 (nI k) (nI v) = some (-3, σ) := by
  have u1 : lm_sh 1 σ 0 2 = nI (g 6) := hC.1.2.1.1
  unfold F_X4_insertRow
  rw [c_row (by omega) (by omega), if_pos ⟨by omega, by omega⟩, lm_bd_some, lm_br, if_pos (by decide), lm_br, if_pos rfl, c_size, lm_bd_some, u1, lm_br, ev_k20, if_neg (nI_nlt (by omega) (by omega))]
theorem c_insFull1 {σ : Hp} (hC : Cn σ g) (h5 : g 5 = 20) {x1 : Int32} (hx : ¬ x1 = 0) {k v : Nat} (hk : k < 10) (hv : v ≤ 99) : F_X4_insertRow σ x1 (nI k) (nI v) = some (-3, σ) := by
  have u1 : lm_sh 4 σ 0 2 = nI (g 5) := hC.1.1.1
  unfold F_X4_insertRow
  rw [c_row (by omega) (by omega), if_pos ⟨by omega, by omega⟩, lm_bd_some, lm_br, if_pos (by decide), lm_br, if_neg hx, c_size, lm_bd_some, u1, lm_br, ev_k20, if_neg (nI_nlt (by omega) (by omega))]
end CA2

