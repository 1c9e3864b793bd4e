/-! what is asked of the class -/
section AS1
variable {t c : Nat} {h : Nat → Hp} {g : Nat → Nat}
theorem as_within {k m : Nat} (hk : k ≤ m) (hm : m < 2147483648) : F_X6_isWithin (nI k) (nI m) = some 1 := by
  unfold F_X6_isWithin
  rw [lm_br, if_neg (nI_pos (by omega)), lm_br, if_neg (nI_nlt hk hm)]
theorem as_key {k : Nat} (hk : k < 10) : F_X6_isKey (nI k) = some 1 := by
  unfold F_X6_isKey
  have := as_within (k := k) (m := 9) (by omega) (by omega)
  rw [show F_X6_isWithin (nI k) 9 = some 1 from this, lm_bd_some]
  rfl
theorem GC.b16 (hG : GC t c h g) : g 16 ≤ 1000000 := Nat.le_trans hG.inn.2.2.2.2.2.1 hG.inn.2.2.2.2.2.2.2
theorem as_c0 (hG : GC t c h g) : F_X6_count h 0 = some (nI (g 6)) := (show F_X6_count h 0 = some (h 0 1 2) from rfl).trans (congrArg some hG.cn.1.2.1.1)
theorem as_c1 (hG : GC t c h g) : F_X6_count h 1 = some (nI (g 5)) := (show F_X6_count h 1 = some (h 0 4 2) from rfl).trans (congrArg some hG.cn.1.1.1)
theorem as_c2 (hG : GC t c h g) : F_X6_count h 2 = some (nI (kno g)) := (show F_X6_count h 2 = lm_bd (F_X2_size (lm_sh 11 (h 0))) (fun r => some r) from rfl).trans (by rw [c_msize hG.cn.2.2.2 hG.inn.2.2.1 hG.b16, lm_bd_some])
theorem as_c3 (hG : GC t c h g) : F_X6_count h 3 = some (nI (wei g)) := (show F_X6_count h 3 = lm_bd (F_X4_weightTogether (h 0)) (fun r => some r) from rfl).trans (by
  rw [c_weightTogether (g := g) (fun k hk => by
    obtain ⟨z, l, f, d1, d2, d3, d4⟩ := hG.cn.2.2.2
    have := (hG.inn.2.2.1 k hk).1
    have := hG.b16
    exact ⟨(d3 k hk).1, by omega⟩) (fun k hk => (hG.cn.2.1 k hk).1), lm_bd_some])
theorem as_tal (hG : GC t c h g) {j : Nat} (hj : j < 7) : h 0 16 j = nI (g (9 + j)) := by
  rw [hG.cn.2.2.1 j hj]
  split
  · rename_i q
    rw [q]
  · rfl
theorem as_cA (hG : GC t c h g) {k : Nat} (hk : k < 9) : F_X6_count h (nI (4 + k)) = some (nI (g (7 + k))) := by
  have hT := hG.cn.1
  have : k = 0 ∨ k = 1 ∨ k = 2 ∨ k = 3 ∨ k = 4 ∨ k = 5 ∨ k = 6 ∨ k = 7 ∨ k = 8 := by omega
  rcases this with q | q | q | q | q | q | q | q | q <;> subst q
  · exact (show F_X6_count h 4 = some (h 0 0 6) from rfl).trans (congrArg some hT.2.2.1.1)
  · exact (show F_X6_count h 5 = some (h 0 0 7) from rfl).trans (congrArg some hT.2.2.1.2)
  · exact (show F_X6_count h 6 = some (h 0 16 0) from rfl).trans (congrArg some (as_tal hG (j := 0) (by omega)))
  · exact (show F_X6_count h 7 = some (h 0 16 1) from rfl).trans (congrArg some (as_tal hG (j := 1) (by omega)))
  · exact (show F_X6_count h 8 = some (h 0 16 2) from rfl).trans (congrArg some (as_tal hG (j := 2) (by omega)))
  · exact (show F_X6_count h 9 = some (h 0 16 3) from rfl).trans (congrArg some (as_tal hG (j := 3) (by omega)))
  · exact (show F_X6_count h 10 = some (h 0 16 4) from rfl).trans (congrArg some (as_tal hG (j := 4) (by omega)))
  · exact (show F_X6_count h 11 = some (h 0 16 5) from rfl).trans (congrArg some (as_tal hG (j := 5) (by omega)))
  · exact (show F_X6_count h 12 = some (h 0 16 6) from rfl).trans (congrArg some (as_tal hG (j := 6) (by omega)))
theorem as_cB (hG : GC t c h g) {k : Nat} (hk : k < 5) : F_X6_count h (nI (13 + k)) = some (nI (g k)) := by
  have hT := hG.cn.1
  have : k = 0 ∨ k = 1 ∨ k = 2 ∨ k = 3 ∨ k = 4 := by omega
  rcases this with q | q | q | q | q <;> subst q
  · exact (show F_X6_count h 13 = some (h 0 15 0) from rfl).trans (congrArg some (hT.2.2.2 0 (by omega)))
  · exact (show F_X6_count h 14 = some (h 0 15 1) from rfl).trans (congrArg some (hT.2.2.2 1 (by omega)))
  · exact (show F_X6_count h 15 = some (h 0 15 2) from rfl).trans (congrArg some (hT.2.2.2 2 (by omega)))
  · exact (show F_X6_count h 16 = some (h 0 15 3) from rfl).trans (congrArg some (hT.2.2.2 3 (by omega)))
  · exact (show F_X6_count h 17 = some (h 0 15 4) from rfl).trans (congrArg some (hT.2.2.2 4 (by omega)))
theorem as_answer (hG : GC t c h g) {k w : Nat} (hk : k < 10) (hw : w ≤ 3) : F_X6_answer h (nI k) (nI w) = some (tl g k (nI w)) := by
  unfold F_X6_answer
  rw [as_key hk, lm_bd_some, lm_br, if_neg (by decide), show F_X6_isWithin (nI w) 3 = some 1 from as_within (m := 3) hw (by omega), lm_bd_some, lm_br, if_neg (by decide), c_tell hG.cn.2.1 hG.inn.1 hk, lm_bd_some]
theorem as_remW {w : Nat} (hw : w ≤ 5) : F_X6_isWithin (nI w) 5 = some 1 := as_within (m := 5) hw (by omega)
theorem as_remU (hG : GC t c h g) {k w : Nat} (hk : k < 10) (hw : w ≤ 5) (u : ¬ 0 < g (97 + k)) : F_X6_remembered h (nI k) (nI w) = some (-4) := by
  unfold F_X6_remembered
  rw [as_key hk, lm_bd_some, lm_br, if_neg (by decide), as_remW hw, lm_bd_some, lm_br, if_pos (by decide), c_known hG.cn.2.2.2 hG.inn.2.2.1 hG.b16 hk, lm_bd_some, if_neg u, lm_br, if_neg (by decide)]
theorem as_remT (hG : GC t c h g) {k w : Nat} (hk : k < 10) (hw : w ≤ 3) (u : 0 < g (97 + k)) : F_X6_remembered h (nI k) (nI w) = some (tl g k (nI w)) := by
  have n4 : ¬ nI w = (4 : Int32) := fun z => absurd ((nI_eq (b := 4) (by omega) (by omega)).mp z) (by omega)
  have n5 : ¬ nI w = (5 : Int32) := fun z => absurd ((nI_eq (b := 5) (by omega) (by omega)).mp z) (by omega)
  unfold F_X6_remembered
  rw [as_key hk, lm_bd_some, lm_br, if_neg (by decide), as_remW (by omega), lm_bd_some, lm_br, if_pos (by decide), c_known hG.cn.2.2.2 hG.inn.2.2.1 hG.b16 hk, lm_bd_some, if_pos u, lm_br, if_pos (by decide), lm_br, if_neg n4, lm_br, if_neg n5, c_tell hG.cn.2.1 hG.inn.1 hk, lm_bd_some]
theorem as_rem4 (hG : GC t c h g) {k : Nat} (hk : k < 10) (u : 0 < g (97 + k)) : F_X6_remembered h (nI k) 4 = some (nI (g (97 + k))) := by
  have e : F_X2_uses (lm_sh 11 (h 0)) (nI k) = some (nI (g (97 + k))) := by
    obtain ⟨z, l, f, d1, d2, d3, d4⟩ := hG.cn.2.2.2
    have d5 : lm_sh 11 (h 0) 1 k = nI (g (97 + k)) := (d3 k hk).1
    unfold F_X2_uses
    rw [lm_br, if_neg (nI_nn k (by omega)), lm_br, if_neg (show ¬ (10 : Int32) ≤ nI k from nI_ge (a := k) (b := 10) (by omega) (by omega)), ev_gi (by omega) (by omega), ev_cl (by omega), d5]
  unfold F_X6_remembered
  rw [as_key hk, lm_bd_some, lm_br, if_neg (by decide), show F_X6_isWithin 4 5 = some 1 from as_remW (w := 4) (by omega), lm_bd_some, lm_br, if_pos (by decide), c_known hG.cn.2.2.2 hG.inn.2.2.1 hG.b16 hk, lm_bd_some, if_pos u, lm_br, if_pos (by decide), lm_br, if_pos rfl, e, lm_bd_some]
theorem as_rem5 (hG : GC t c h g) {k : Nat} (hk : k < 10) (u : 0 < g (97 + k)) : F_X6_remembered h (nI k) 5 = some (nI (oD g k 10 0)) := by
  have e : F_X4_setting (h 0) 1 = some (nI (g 1)) := by
    have d5 : h 0 15 1 = nI (g 1) := hG.cn.1.2.2.2 1 (by omega)
    rw [← d5]
    rfl
  unfold F_X6_remembered
  rw [as_key hk, lm_bd_some, lm_br, if_neg (by decide), show F_X6_isWithin 5 5 = some 1 from as_remW (w := 5) (by omega), lm_bd_some, lm_br, if_pos (by decide), c_known hG.cn.2.2.2 hG.inn.2.2.1 hG.b16 hk, lm_bd_some, if_pos u, lm_br, if_pos (by decide), lm_br, if_neg (by decide), lm_br, if_pos rfl, e, lm_bd_some, c_placeOf hG.cn.2.2.2 hG.inn.2.2.1 hG.b16 hG.inn.2.2.2.1.2.1 hk u, lm_bd_some]
theorem as_total (hG : GC t c h g) : F_X6_total h 0 = some (nI (tD g (g 6) 0)) ∧ F_X6_total h 1 = some (nI (tD g (g 6) 0)) := by
  have hI := hG.inn
  have b6 := hI.2.1.1
  have z2 := c_total_L hG.cn hI.2.1 (g 6) 1000 0 0 (by omega) (by omega)
  have z3 := c_rows hG.cn hI.1 hI.2.1 (g 6) 1000 0 0 (by omega) (by omega)
  rw [show nI 0 = (0 : Int32) from rfl, Nat.zero_add] at z2 z3
  refine ⟨?_, ?_⟩
  · unfold F_X6_total F_X4_totalByAnswers
    rw [show F_X6_isWithin 0 1 = some 1 from as_within (k := 0) (m := 1) (by omega) (by omega), lm_bd_some, lm_br, if_pos (by decide), z2, lm_bd_some, lm_br, if_neg (by decide)]
  · unfold F_X6_total F_X4_totalByRows
    rw [show F_X6_isWithin 1 1 = some 1 from as_within (k := 1) (m := 1) (by omega) (by omega), lm_bd_some, lm_br, if_pos (by decide), z3, lm_bd_some, lm_br, if_pos (by decide)]
theorem as_row0N (hG : GC t c h g) : F_X6_row h 0 (nI (g 6)) 0 = some (-1) := by
  have u1 : lm_sh 1 (h 0) 0 2 = nI (g 6) := hG.cn.1.2.1.1
  have b := hG.inn.2.1.1
  unfold F_X6_row
  rw [lm_br, if_pos rfl, hs_no u1 b (Nat.le_refl _) (by omega), lm_bd_some, lm_br, if_pos rfl]
theorem as_row1N (hG : GC t c h g) : F_X6_row h 1 (nI (g 5)) 0 = some (-1) := by
  have u1 : lm_sh 4 (h 0) 0 2 = nI (g 5) := hG.cn.1.1.1
  have b := hG.inn.1.1
  unfold F_X6_row
  rw [lm_br, if_neg (by decide), hs_no u1 b (Nat.le_refl _) (by omega), lm_bd_some, lm_br, if_pos rfl]
theorem as_row1M : F_X6_row h 1 (-1) 0 = some (-1) := by
  have e : F_X5_has (lm_sh 4 (h 0)) (-1) = some 0 := by
    unfold F_X5_has
    rw [lm_br, if_pos (by decide)]
  unfold F_X6_row
  rw [lm_br, if_neg (by decide), e, lm_bd_some, lm_br, if_pos rfl]
theorem as_w2 {w : Nat} (hw : w ≤ 2) : F_X6_isWithin (nI w) 2 = some 1 := as_within (m := 2) hw (by omega)
theorem as_row0 (hG : GC t c h g) {r : Nat} (hr : r < g 6) : F_X6_row h 0 (nI r) 0 = some (nI (g (57 + 2 * r))) ∧ F_X6_row h 0 (nI r) 1 = some (nI (g (58 + 2 * r))) ∧ F_X6_row h 0 (nI r) 2 = some (if r < g 7 then 1 else 0) := by
  have u1 : lm_sh 1 (h 0) 0 2 = nI (g 6) := hG.cn.1.2.1.1
  have p1 : h 0 0 6 = nI (g 7) := hG.cn.1.2.2.1.1
  have b := hG.inn.2.1.1
  have b7 := hG.inn.2.1.2.1
  obtain ⟨v1, v2⟩ := hG.cn.1.2.1.2 r hr
  have v1' : lm_sh 1 (h 0) 1 r = nI (g (57 + 2 * r)) := v1
  have v2' : lm_sh 1 (h 0) 2 r = nI (g (58 + 2 * r)) := v2
  refine ⟨?_, ?_, ?_⟩
  · unfold F_X6_row
    rw [lm_br, if_pos rfl, hs_yes u1 b hr, lm_bd_some, lm_br, if_neg (by decide), show F_X6_isWithin 0 2 = some 1 from as_w2 (w := 0) (by omega), lm_bd_some, lm_br, if_pos (by decide), lm_br, if_pos rfl, c_key (by omega), lm_bd_some, v1']
  · unfold F_X6_row
    rw [lm_br, if_pos rfl, hs_yes u1 b hr, lm_bd_some, lm_br, if_neg (by decide), show F_X6_isWithin 1 2 = some 1 from as_w2 (w := 1) (by omega), lm_bd_some, lm_br, if_pos (by decide), lm_br, if_neg (by decide), lm_br, if_pos rfl, c_value (by omega), lm_bd_some, v2']
  · unfold F_X6_row F_X4_isDone
    rw [lm_br, if_pos rfl, hs_yes u1 b hr, lm_bd_some, lm_br, if_neg (by decide), show F_X6_isWithin 2 2 = some 1 from as_w2 (w := 2) (by omega), lm_bd_some, lm_br, if_pos (by decide), lm_br, if_neg (by decide), lm_br, if_neg (by decide), p1]
    by_cases w : r < g 7
    · rw [lm_br, if_neg (nI_ge w (by omega)), lm_bd_some, lm_br, if_neg (by decide), if_pos w]
    · rw [lm_br, if_pos (nI_le (by omega) (by omega)), lm_bd_some, lm_br, if_pos rfl, if_neg w]
theorem as_row1 (hG : GC t c h g) {r : Nat} (hr : r < g 5) : F_X6_row h 1 (nI r) 0 = some (nI (g (17 + 2 * r))) ∧ F_X6_row h 1 (nI r) 1 = some (nI (g (18 + 2 * r))) ∧ F_X6_row h 1 (nI r) 2 = some (if 0 < g (97 + g (17 + 2 * r)) ∧ mt g (g (17 + 2 * r)) r = true then 1 else 0) := by
  have u1 : lm_sh 4 (h 0) 0 2 = nI (g 5) := hG.cn.1.1.1
  obtain ⟨b, b3, b4, hrow⟩ := id hG.inn.1
  obtain ⟨r1, r2⟩ := hrow r hr
  obtain ⟨v1, v2⟩ := hG.cn.1.1.2 r hr
  have v1' : lm_sh 4 (h 0) 1 r = nI (g (17 + 2 * r)) := v1
  have v2' : lm_sh 4 (h 0) 2 r = nI (g (18 + 2 * r)) := v2
  refine ⟨?_, ?_, ?_⟩
  · unfold F_X6_row
    rw [lm_br, if_neg (by decide), hs_yes u1 b hr, lm_bd_some, lm_br, if_neg (by decide), show F_X6_isWithin 0 2 = some 1 from as_w2 (w := 0) (by omega), lm_bd_some, lm_br, if_pos (by decide), lm_br, if_pos rfl, c_key (by omega), lm_bd_some, v1']
  · unfold F_X6_row
    rw [lm_br, if_neg (by decide), hs_yes u1 b hr, lm_bd_some, lm_br, if_neg (by decide), show F_X6_isWithin 1 2 = some 1 from as_w2 (w := 1) (by omega), lm_bd_some, lm_br, if_pos (by decide), lm_br, if_neg (by decide), lm_br, if_pos rfl, c_value (by omega), lm_bd_some, v2']
  · have hkn := c_known hG.cn.2.2.2 hG.inn.2.2.1 hG.b16 r1
    have s3 : h 0 15 3 = nI (g 3) := hG.cn.1.2.2.2 3 (by omega)
    have s4 : h 0 15 4 = nI (g 4) := hG.cn.1.2.2.2 4 (by omega)
    have hmt : mt g (g (17 + 2 * r)) r = true ↔ (g 3 ≤ g (18 + 2 * r) ∧ g (18 + 2 * r) ≤ g 4) := by
      simp [mt]
    unfold F_X6_row F_X4_isInRememberedAnswer F_X4_isInBand
    rw [lm_br, if_neg (by decide), hs_yes u1 b hr, lm_bd_some, lm_br, if_neg (by decide), show F_X6_isWithin 2 2 = some 1 from as_w2 (w := 2) (by omega), lm_bd_some, lm_br, if_pos (by decide), lm_br, if_neg (by decide), lm_br, if_neg (by decide), c_key (by omega), lm_bd_some, v1', hkn, lm_bd_some]
    by_cases w : 0 < g (97 + g (17 + 2 * r))
    · rw [if_pos w, lm_br, if_neg (by decide), c_value (by omega), lm_bd_some, v2', s3, s4]
      by_cases y1 : g 3 ≤ g (18 + 2 * r)
      · rw [lm_br, if_neg (nI_nlt y1 (by omega))]
        by_cases y2 : g (18 + 2 * r) ≤ g 4
        · rw [lm_br, if_neg (nI_nlt y2 (by omega)), lm_bd_some, lm_br, if_neg (by decide), lm_bd_some, lm_br, if_neg (by decide), if_pos ⟨w, hmt.mpr ⟨y1, y2⟩⟩]
        · rw [lm_br, if_pos (nI_lt (by omega) (by omega)), lm_bd_some, lm_br, if_pos rfl, lm_bd_some, lm_br, if_pos rfl, if_neg (fun z => y2 (hmt.mp z.2).2)]
      · rw [lm_br, if_pos (nI_lt (by omega) (by omega)), lm_bd_some, lm_br, if_pos rfl, lm_bd_some, lm_br, if_pos rfl, if_neg (fun z => y1 (hmt.mp z.2).1)]
    · rw [if_neg w, lm_br, if_pos (by decide), lm_bd_some, lm_br, if_pos rfl, if_neg (fun z => w z.1)]
end AS1
