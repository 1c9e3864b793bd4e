/-! taking a row out: the reference, whole -/
section CD2
variable {g : Nat → Nat} {μ : Hp}
theorem drO_e (g : Nat → Nat) {r j : Nat} (h6 : g 6 ≤ 20) (h : j ≠ 6) (h7 : j ≠ 7) (hj : ¬ (57 ≤ j ∧ j < 97)) : drO g r j = g j := by
  unfold drO
  rw [un_ne _ _ h7, sh2_out (by omega), un_ne _ _ h]
theorem drI_e (g : Nat → Nat) {r j : Nat} (h5 : g 5 ≤ 20) (h : j ≠ 5) (hj : ¬ (17 ≤ j ∧ j < 57)) : drI g r j = g j := by
  unfold drI
  rw [sh2_out (by omega), un_ne _ _ h]
theorem drO_6 (g : Nat → Nat) (r : Nat) : drO g r 6 = g 6 - 1 := by
  unfold drO
  rw [un_ne _ _ (by omega), sh2_out (by omega), un_same]
theorem drO_7 (g : Nat → Nat) (r : Nat) : drO g r 7 = g 7 - (if r < g 7 then 1 else 0) := by
  unfold drO
  rw [un_same]
theorem drI_5 (g : Nat → Nat) (r : Nat) : drI g r 5 = g 5 - 1 := by
  unfold drI
  rw [sh2_out (by omega), un_same]
theorem drO_row (g : Nat → Nat) {r i : Nat} (hi : i < g 6 - 1) : drO g r (57 + 2 * i) = g (57 + 2 * (if r ≤ i then i + 1 else i)) ∧ drO g r (58 + 2 * i) = g (58 + 2 * (if r ≤ i then i + 1 else i)) := by
  unfold drO
  rw [un_ne _ _ (by omega), un_ne _ _ (by omega)]
  by_cases q : r ≤ i
  · rw [if_pos q, sh2_in (by omega), sh2_in (by omega), un_ne _ _ (by omega), un_ne _ _ (by omega), show 57 + 2 * i + 2 = 57 + 2 * (i + 1) by omega, show 58 + 2 * i + 2 = 58 + 2 * (i + 1) by omega]
    exact ⟨rfl, rfl⟩
  · rw [if_neg q, sh2_out (by omega), sh2_out (by omega), un_ne _ _ (by omega), un_ne _ _ (by omega)]
    exact ⟨rfl, rfl⟩
theorem drI_row (g : Nat → Nat) {r i : Nat} (hi : i < g 5 - 1) : drI g r (17 + 2 * i) = g (17 + 2 * (if r ≤ i then i + 1 else i)) ∧ drI g r (18 + 2 * i) = g (18 + 2 * (if r ≤ i then i + 1 else i)) := by
  unfold drI
  by_cases q : r ≤ i
  · rw [if_pos q, sh2_in (by omega), sh2_in (by omega), un_ne _ _ (by omega), un_ne _ _ (by omega), show 17 + 2 * i + 2 = 17 + 2 * (i + 1) by omega, show 18 + 2 * i + 2 = 18 + 2 * (i + 1) by omega]
    exact ⟨rfl, rfl⟩
  · rw [if_neg q, sh2_out (by omega), sh2_out (by omega), un_ne _ _ (by omega), un_ne _ _ (by omega)]
    exact ⟨rfl, rfl⟩
/-- taking a row out may take a done one: then the bound for the total needs one step more -/
theorem drO_In {t c : Nat} (hI : In t c g) (ht1 : t < 1000) {r : Nat} (hr : r < g 6) : In (t + 1) c (drO g r) := by
  obtain ⟨hR, hO, hKn, ⟨h0, h1, h2⟩, h8, i16, ht, hc⟩ := hI
  have e : ∀ j, j ≠ 6 → j ≠ 7 → ¬ (57 ≤ j ∧ j < 97) → drO g r j = g j := fun j a b c => drO_e g hO.1 a b c
  obtain ⟨j6, j7, jr⟩ := hO
  refine ⟨⟨?_, ?_, ?_, fun i hi => ?_⟩, ⟨?_, ?_, fun i hi => ?_⟩, ?_, ⟨?_, ?_, ?_⟩, ?_, ?_, by omega, hc⟩
  · rw [e 5 (by omega) (by omega) (by omega)]; exact hR.1
  · rw [e 3 (by omega) (by omega) (by omega)]; exact hR.2.1
  · rw [e 4 (by omega) (by omega) (by omega)]; exact hR.2.2.1
  · have h5 := hR.1
    rw [e 5 (by omega) (by omega) (by omega)] at hi
    rw [e _ (by omega) (by omega) (by omega), e _ (by omega) (by omega) (by omega)]
    exact hR.2.2.2 i hi
  · rw [drO_6]; omega
  · rw [drO_6, drO_7]
    split <;> omega
  · rw [drO_6] at hi
    rw [(drO_row g hi).1, (drO_row g hi).2]
    exact jr _ (by split <;> omega)
  · intro j hj
    rw [e _ (by omega) (by omega) (by omega), e _ (by omega) (by omega) (by omega), e _ (by omega) (by omega) (by omega), e _ (by omega) (by omega) (by omega)]
    exact hKn j hj
  · rw [e 0 (by omega) (by omega) (by omega)]; exact h0
  · rw [e 1 (by omega) (by omega) (by omega)]; exact h1
  · rw [e 2 (by omega) (by omega) (by omega)]; exact h2
  · rw [e 8 (by omega) (by omega) (by omega), drO_7]
    split <;> omega
  · rw [e 16 (by omega) (by omega) (by omega)]; exact i16
theorem drI_In {t c : Nat} (hI : In t c g) {r : Nat} (hr : r < g 5) : In t c (drI g r) := by
  obtain ⟨hR, hO, hKn, ⟨h0, h1, h2⟩, h8, i16, ht, hc⟩ := hI
  have e : ∀ j, j ≠ 5 → ¬ (17 ≤ j ∧ j < 57) → drI g r j = g j := fun j a c => drI_e g hR.1 a c
  obtain ⟨j5, j3, j4, jr⟩ := hR
  refine ⟨⟨?_, ?_, ?_, fun i hi => ?_⟩, ⟨?_, ?_, fun i hi => ?_⟩, ?_, ⟨?_, ?_, ?_⟩, ?_, ?_, ht, hc⟩
  · rw [drI_5]; omega
  · rw [e 3 (by omega) (by omega)]; exact j3
  · rw [e 4 (by omega) (by omega)]; exact j4
  · rw [drI_5] at hi
    rw [(drI_row g hi).1, (drI_row g hi).2]
    exact jr _ (by split <;> omega)
  · rw [e 6 (by omega) (by omega)]; exact hO.1
  · rw [e 6 (by omega) (by omega), e 7 (by omega) (by omega)]; exact hO.2.1
  · have h6 := hO.1
    rw [e 6 (by omega) (by omega)] at hi
    rw [e _ (by omega) (by omega), e _ (by omega) (by omega)]
    exact hO.2.2 i hi
  · intro j hj
    rw [e _ (by omega) (by omega), e _ (by omega) (by omega), e _ (by omega) (by omega), e _ (by omega) (by omega)]
    exact hKn j hj
  · rw [e 0 (by omega) (by omega)]; exact h0
  · rw [e 1 (by omega) (by omega)]; exact h1
  · rw [e 2 (by omega) (by omega)]; exact h2
  · rw [e 8 (by omega) (by omega), e 7 (by omega) (by omega)]; exact h8
  · rw [e 16 (by omega) (by omega)]; exact i16
theorem o_drop0 {μ4 : Hp} (hM : Mo μ g) (hc : F_X7_changes μ = some μ4) (hM4 : Mo μ4 g) (hO : Rou g) {r : Nat} (hr : r < g 6) : ∃ μ', F_X7_drop μ 0 (nI r) = some (nI (g 6 - 1), μ') ∧ Mo μ' (drO g r) ∧ Fr μ4 μ' := by
  obtain ⟨h6, h7, -⟩ := hO
  have e6 : μ4 1 6 = nI (g 6) := hM4 6 (by omega)
  obtain ⟨μ', i1, i2, i3⟩ := o_drop_L (g := un g 6 (g 6 - 1)) (b := 57) (s := 6) (r := r) (Or.inr ⟨rfl, rfl⟩) (by rw [un_same]; omega) 0 (nI r) (μ4 1 (57 + 2 * r)) (2 * (g 6 - 1) - 2 * r) 1000 (2 * r) (lm_u μ4 1 6 (nI (g 6 - 1))) (Mo_eq (Mo_u hM4 6 (g 6 - 1)) (fun j _ => sh2_e 57 r j)) (by omega) (by rw [un_same]; omega) (by omega)
  rw [un_same] at i2
  have e7 : μ' 1 7 = nI (g 7) := by rw [i2 7 (by omega), sh2_out (by omega), un_ne _ _ (by omega)]
  have e6' : μ' 1 6 = nI (g 6 - 1) := by rw [i2 6 (by omega), sh2_out (by omega), un_same]
  have hgo : F_X7_drop μ 0 (nI r) = drX μ' 0 (nI r) (nI 6) (μ4 1 (57 + 2 * r)) := by
    rw [← i1]
    unfold F_X7_drop
    rw [lm_br, if_pos rfl, o_isOuter hM h6 (by omega), if_pos hr, lm_bd_some, lm_br, if_pos (by decide), hc, lm_bd_some, ev_k57, ev_k2, ev_mul, ev_add, ev_gi (by omega) (by omega), ev_cl (by omega), lm_lt_eq, e6, ev_k1, pk_sub (by omega), lm_lt_eq, ev_k6]
  rw [hgo]
  unfold drX
  rw [lm_br, if_pos rfl, e7, lm_br]
  by_cases q : r < g 7
  · rw [if_neg (nI_ge q (by omega)), ev_k1, pk_sub (by omega), lm_lt_eq, ev_gi (by omega) (by omega), ev_cl (by omega), lu_ne _ _ (by omega), e6']
    refine ⟨_, rfl, ?_, i3' i3⟩
    unfold drO
    rw [if_pos q]
    exact Mo_u i2 7 _
  · rw [if_pos (nI_le (by omega) (by omega)), ev_k0, pk_sub (by omega), lm_lt_eq, ev_gi (by omega) (by omega), ev_cl (by omega), lu_ne _ _ (by omega), e6']
    refine ⟨_, rfl, ?_, i3' i3⟩
    unfold drO
    rw [if_neg q]
    exact Mo_u i2 7 _
where i3' {μ4 μ' : Hp} {x y : Int32} {n : Nat} (h : Fr (lm_u μ4 1 n x) μ') : Fr μ4 (lm_u μ' 1 7 y) := (((Fr.rf.u _ _).trans h).u _ _)
theorem o_drop1 {μ4 : Hp} (hM : Mo μ g) (hc : F_X7_changes μ = some μ4) (hM4 : Mo μ4 g) {t c : Nat} (hI : In t c g) {x1 : Int32} (hx : ¬ x1 = 0) {r : Nat} (hr : r < g 5) : ∃ μ', F_X7_drop μ x1 (nI r) = some (nI (g 5 - 1), μ') ∧ Mo μ' (kp (drI g r) (g (17 + 2 * r)) (g (17 + 2 * r))) ∧ Fr μ4 μ' := by
  have hJ := drI_In hI hr
  obtain ⟨⟨h5, h3, h4, hrow⟩, -⟩ := hI
  have e5 : μ4 1 5 = nI (g 5) := hM4 5 (by omega)
  have ek : μ4 1 (17 + 2 * r) = nI (g (17 + 2 * r)) := hM4 _ (by omega)
  obtain ⟨μ', i1, i2, i3⟩ := o_drop_L (g := un g 5 (g 5 - 1)) (b := 17) (s := 5) (r := r) (Or.inl ⟨rfl, rfl⟩) (by rw [un_same]; omega) x1 (nI r) (nI (g (17 + 2 * r))) (2 * (g 5 - 1) - 2 * r) 1000 (2 * r) (lm_u μ4 1 5 (nI (g 5 - 1))) (Mo_eq (Mo_u hM4 5 (g 5 - 1)) (fun j _ => sh2_e 17 r j)) (by omega) (by rw [un_same]; omega) (by omega)
  rw [un_same] at i2
  have hgo : F_X7_drop μ x1 (nI r) = drX μ' x1 (nI r) (nI 5) (nI (g (17 + 2 * r))) := by
    rw [← i1]
    unfold F_X7_drop
    rw [lm_br, if_neg hx, o_isInner hM h5 (by omega), if_pos hr, lm_bd_some, lm_br, if_pos (by decide), hc, lm_bd_some, ev_k17, ev_k2, ev_mul, ev_add, ev_gi (by omega) (by omega), ev_cl (by omega), lm_lt_eq, e5, ev_k1, pk_sub (by omega), lm_lt_eq, ek, ev_k5]
  have j16 := hJ.2.2.2.2.2.1
  have jc := hJ.2.2.2.2.2.2.2
  obtain ⟨μ2, k1, k2, k3⟩ := o_keeps (μ := μ') (g := drI g r) i2 (fun j hj => by have := (hJ.2.2.1 j hj).1; omega) hJ.2.2.2.1.2.2 (hrow r hr).1 (hrow r hr).1
  have k5 : μ2 1 5 = nI (g 5 - 1) := by rw [k2 5 (by omega), kp_Sm _ _ _ 5 (by omega) (by omega), drI_5]
  rw [hgo]
  unfold drX
  rw [lm_br, if_neg hx, k1, lm_bd_some, ev_gi (by omega) (by omega), ev_cl (by omega), k5]
  exact ⟨_, rfl, k2, ((Fr.rf.u _ _).trans i3).trans k3⟩
end CD2
