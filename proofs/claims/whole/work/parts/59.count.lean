/-! counts -/
section TK1
variable {μ : Hp}
theorem q_count {t c : Nat} {h : Nat → Hp} (hR : R0 t c h μ) (hP : F_X3_size (lm_sh 1 (h 8)) = some (μ 0 8)) (x1 : Int32) : ∃ r, F_X6_count h x1 = some r ∧ F_X7_count μ x1 = some r := by
  obtain ⟨g, p, n, H, hC, hM, hI, hH, hHs, hIH, h6⟩ := id hR
  obtain ⟨hT, hA, hY, hm⟩ := id hC
  have b16 := Nat.le_trans hI.2.2.2.2.2.1 hI.2.2.2.2.2.2.2
  have hy : ∀ j, j < 7 → h 0 16 j = nI (g (9 + j)) := fun j hj => by
    rw [hY j hj]
    split
    · rename_i q
      rw [q]
    · rfl
  rcases raw_in x1 (m := 19) (by omega) with ⟨a1, a2⟩ | ⟨a1, k, hk, e⟩
  · have a1' : F_X7_in x1 0 19 = some 0 := a1
    have n0 : ¬ x1 = 0 := a2 0 (by omega)
    have n1 : ¬ x1 = 1 := a2 1 (by omega)
    have n2 : ¬ x1 = 2 := a2 2 (by omega)
    have n3 : ¬ x1 = 3 := a2 3 (by omega)
    have n4 : ¬ x1 = 4 := a2 4 (by omega)
    have n5 : ¬ x1 = 5 := a2 5 (by omega)
    have n6 : ¬ x1 = 6 := a2 6 (by omega)
    have n7 : ¬ x1 = 7 := a2 7 (by omega)
    have n8 : ¬ x1 = 8 := a2 8 (by omega)
    have n9 : ¬ x1 = 9 := a2 9 (by omega)
    have n10 : ¬ x1 = 10 := a2 10 (by omega)
    have n11 : ¬ x1 = 11 := a2 11 (by omega)
    have n12 : ¬ x1 = 12 := a2 12 (by omega)
    have n13 : ¬ x1 = 13 := a2 13 (by omega)
    have n14 : ¬ x1 = 14 := a2 14 (by omega)
    have n15 : ¬ x1 = 15 := a2 15 (by omega)
    have n16 : ¬ x1 = 16 := a2 16 (by omega)
    have n17 : ¬ x1 = 17 := a2 17 (by omega)
    have n18 : ¬ x1 = 18 := a2 18 (by omega)
    have n19 : ¬ x1 = 19 := a2 19 (by omega)
    refine ⟨-1, ?_, ?_⟩
    · unfold F_X6_count
      rw [lm_br, if_neg n0, lm_br, if_neg n1, lm_br, if_neg n2, lm_br, if_neg n3, lm_br, if_neg n4, lm_br, if_neg n5, lm_br, if_neg n6, lm_br, if_neg n7, lm_br, if_neg n8, lm_br, if_neg n9, lm_br, if_neg n10, lm_br, if_neg n11, lm_br, if_neg n12, lm_br, if_neg n13, lm_br, if_neg n14, lm_br, if_neg n15, lm_br, if_neg n16, lm_br, if_neg n17, lm_br, if_neg n18, lm_br, if_neg n19, within_in, a1', lm_bd_some, lm_br, if_pos rfl]
    · unfold F_X7_count
      rw [lm_br, if_neg n0, lm_br, if_neg n1, lm_br, if_neg n2, lm_br, if_neg n3, lm_br, if_neg n4, lm_br, if_neg n5, lm_br, if_neg n6, lm_br, if_neg n7, lm_br, if_neg n8, lm_br, if_neg n9, lm_br, if_neg n10, lm_br, if_neg n11, lm_br, if_neg n12, lm_br, if_neg n13, lm_br, if_neg n14, lm_br, if_neg n15, lm_br, if_neg n16, lm_br, if_neg n17, lm_br, if_neg n18, lm_br, if_neg n19]
  · subst e
    have : k = 0 ∨ k = 1 ∨ k = 2 ∨ k = 3 ∨ k = 4 ∨ k = 5 ∨ k = 6 ∨ k = 7 ∨ k = 8 ∨ k = 9 ∨ k = 10 ∨ k = 11 ∨ k = 12 ∨ k = 13 ∨ k = 14 ∨ k = 15 ∨ k = 16 ∨ k = 17 ∨ k = 18 ∨ k = 19 := by omega
    rcases this with q | q | q | q | q | q | q | q | q | q | q | q | q | q | q | q | q | q | q | q <;> subst q
    · exact ⟨nI (g 6), (show F_X6_count h 0 = some (h 0 1 2) from rfl).trans (congrArg some hT.2.1.1), (show F_X7_count μ 0 = some (μ 1 6) from rfl).trans (congrArg some (hM 6 (by omega)))⟩
    · exact ⟨nI (g 5), (show F_X6_count h 1 = some (h 0 4 2) from rfl).trans (congrArg some hT.1.1), (show F_X7_count μ 1 = some (μ 1 5) from rfl).trans (congrArg some (hM 5 (by omega)))⟩
    · exact ⟨nI (kno g), (show F_X6_count h 2 = lm_bd (F_X2_size (lm_sh 11 (h 0))) (fun r => some r) from rfl).trans (by rw [c_msize hm hI.2.2.1 b16, lm_bd_some]), (show F_X7_count μ 2 = lm_bd (F_X7_known μ) (fun r => some r) from rfl).trans (by rw [o_known hM hI.kb, lm_bd_some])⟩
    · exact ⟨nI (wei g), (show F_X6_count h 3 = lm_bd (F_X4_weightTogether (h 0)) (fun r => some r) from rfl).trans (by rw [c_weightTogether (g := g) (fun k hk => by
        obtain ⟨z, l, f, d1, d2, d3, d4⟩ := hm
        have := (hI.2.2.1 k hk).1
        exact ⟨(d3 k hk).1, by omega⟩) (fun k hk => (hA k hk).1), lm_bd_some]), (show F_X7_count μ 3 = lm_bd (F_X7_weights μ) (fun r => some r) from rfl).trans (by rw [o_weights hM hI.kb hI.1, lm_bd_some])⟩
    · exact ⟨nI (g 7), (show F_X6_count h 4 = some (h 0 0 6) from rfl).trans (congrArg some hT.2.2.1.1), (show F_X7_count μ 4 = some (μ 1 7) from rfl).trans (congrArg some (hM 7 (by omega)))⟩
    · exact ⟨nI (g 8), (show F_X6_count h 5 = some (h 0 0 7) from rfl).trans (congrArg some hT.2.2.1.2), (show F_X7_count μ 5 = some (μ 1 8) from rfl).trans (congrArg some (hM 8 (by omega)))⟩
    · exact ⟨nI (g 9), (show F_X6_count h 6 = some (h 0 16 0) from rfl).trans (congrArg some (hy 0 (by omega))), (show F_X7_count μ 6 = some (μ 1 9) from rfl).trans (congrArg some (hM 9 (by omega)))⟩
    · exact ⟨nI (g 10), (show F_X6_count h 7 = some (h 0 16 1) from rfl).trans (congrArg some (hy 1 (by omega))), (show F_X7_count μ 7 = some (μ 1 10) from rfl).trans (congrArg some (hM 10 (by omega)))⟩
    · exact ⟨nI (g 11), (show F_X6_count h 8 = some (h 0 16 2) from rfl).trans (congrArg some (hy 2 (by omega))), (show F_X7_count μ 8 = some (μ 1 11) from rfl).trans (congrArg some (hM 11 (by omega)))⟩
    · exact ⟨nI (g 12), (show F_X6_count h 9 = some (h 0 16 3) from rfl).trans (congrArg some (hy 3 (by omega))), (show F_X7_count μ 9 = some (μ 1 12) from rfl).trans (congrArg some (hM 12 (by omega)))⟩
    · exact ⟨nI (g 13), (show F_X6_count h 10 = some (h 0 16 4) from rfl).trans (congrArg some (hy 4 (by omega))), (show F_X7_count μ 10 = some (μ 1 13) from rfl).trans (congrArg some (hM 13 (by omega)))⟩
    · exact ⟨nI (g 14), (show F_X6_count h 11 = some (h 0 16 5) from rfl).trans (congrArg some (hy 5 (by omega))), (show F_X7_count μ 11 = some (μ 1 14) from rfl).trans (congrArg some (hM 14 (by omega)))⟩
    · exact ⟨nI (g 15), (show F_X6_count h 12 = some (h 0 16 6) from rfl).trans (congrArg some (hy 6 (by omega))), (show F_X7_count μ 12 = some (μ 1 15) from rfl).trans (congrArg some (hM 15 (by omega)))⟩
    · exact ⟨nI (g 0), (show F_X6_count h 13 = some (h 0 15 0) from rfl).trans (congrArg some (hT.2.2.2 0 (by omega))), (show F_X7_count μ 13 = some (μ 1 0) from rfl).trans (congrArg some (hM 0 (by omega)))⟩
    · exact ⟨nI (g 1), (show F_X6_count h 14 = some (h 0 15 1) from rfl).trans (congrArg some (hT.2.2.2 1 (by omega))), (show F_X7_count μ 14 = some (μ 1 1) from rfl).trans (congrArg some (hM 1 (by omega)))⟩
    · exact ⟨nI (g 2), (show F_X6_count h 15 = some (h 0 15 2) from rfl).trans (congrArg some (hT.2.2.2 2 (by omega))), (show F_X7_count μ 15 = some (μ 1 2) from rfl).trans (congrArg some (hM 2 (by omega)))⟩
    · exact ⟨nI (g 3), (show F_X6_count h 16 = some (h 0 15 3) from rfl).trans (congrArg some (hT.2.2.2 3 (by omega))), (show F_X7_count μ 16 = some (μ 1 3) from rfl).trans (congrArg some (hM 3 (by omega)))⟩
    · exact ⟨nI (g 4), (show F_X6_count h 17 = some (h 0 15 4) from rfl).trans (congrArg some (hT.2.2.2 4 (by omega))), (show F_X7_count μ 17 = some (μ 1 4) from rfl).trans (congrArg some (hM 4 (by omega)))⟩
    · exact ⟨μ 0 8, (show F_X6_count h 18 = lm_bd (F_X3_size (lm_sh 1 (h 8))) (fun r => some r) from rfl).trans (by rw [hP, lm_bd_some]), (show F_X7_count μ 18 = some (μ 0 8) from rfl)⟩
    · exact ⟨nI n, (show F_X6_count h 19 = some (h 8 3 2) from rfl).trans (congrArg some hH.2.1), (show F_X7_count μ 19 = some (μ 0 5) from rfl).trans (congrArg some hHs.1)⟩
end TK1
