/-! rows that are asked for -/
section TQ3
variable {g : Nat → Nat} {μ : Hp}
theorem q_row0 {t c : Nat} {h : Nat → Hp} (hR : R0 t c h μ) (x2 x3 : Int32) : ∃ r, F_X6_row h 0 x2 x3 = some r ∧ F_X7_row μ 0 x2 x3 = some r := by
  obtain ⟨g, p, n, H, hC, hM, hI, hH, hHs, hIH, h6⟩ := hR
  have u1 : lm_sh 1 (h 0) 0 2 = nI (g 6) := hC.1.2.1.1
  have p1 : h 0 0 6 = nI (g 7) := hC.1.2.2.1.1
  have b6 := hI.2.1.1
  have b7 := hI.2.1.2.1
  rcases raw_outer hM b6 x2 with ⟨a1, a2⟩ | ⟨a1, k, a2, a3⟩
  · have b1 : F_X5_has (lm_sh 1 (h 0)) x2 = some 0 := by
      rcases raw_has u1 b6 x2 with ⟨b1, -⟩ | ⟨-, k, b2, b3⟩
      · exact b1
      · exact absurd b3 (a2 k b2)
    refine ⟨-1, ?_, ?_⟩
    · unfold F_X6_row
      rw [lm_br, if_pos rfl, b1, lm_bd_some, lm_br, if_pos rfl]
    · unfold F_X7_row
      rw [lm_br, if_pos rfl, a1, lm_bd_some, lm_br, if_pos rfl]
  · subst a3
    have b1 : F_X5_has (lm_sh 1 (h 0)) (nI k) = some 1 := by
      rcases raw_has u1 b6 (nI k) with ⟨-, b1⟩ | ⟨b1, -⟩
      · exact absurd rfl (b1 k a2)
      · exact b1
    rcases raw_in x3 (m := 2) (by omega) with ⟨d1, -⟩ | ⟨d1, j, d2, d3⟩
    · have d1' : F_X7_in x3 0 2 = some 0 := d1
      refine ⟨-1, ?_, ?_⟩
      · unfold F_X6_row
        rw [lm_br, if_pos rfl, b1, lm_bd_some, lm_br, if_neg (by decide), within_in, d1', lm_bd_some, lm_br, if_neg (by decide)]
      · unfold F_X7_row
        rw [lm_br, if_pos rfl, a1, lm_bd_some, lm_br, if_neg (by decide), d1', lm_bd_some, lm_br, if_neg (by decide)]
    · have d1' : F_X7_in x3 0 2 = some 1 := d1
      obtain ⟨v1, v2⟩ := hC.1.2.1.2 k a2
      have v1' : lm_sh 1 (h 0) 1 k = nI (g (57 + 2 * k)) := v1
      have v2' : lm_sh 1 (h 0) 2 k = nI (g (58 + 2 * k)) := v2
      subst d3
      have : j = 0 ∨ j = 1 ∨ j = 2 := by omega
      rcases this with q | q | q <;> subst q
      · refine ⟨nI (g (57 + 2 * k)), ?_, ?_⟩
        · unfold F_X6_row
          rw [lm_br, if_pos rfl, b1, lm_bd_some, lm_br, if_neg (by decide), within_in, d1', lm_bd_some, lm_br, if_pos (by decide), lm_br, if_pos (by decide), c_key (by omega), lm_bd_some, v1']
        · unfold F_X7_row
          rw [lm_br, if_pos rfl, a1, lm_bd_some, lm_br, if_neg (by decide), d1', lm_bd_some, lm_br, if_pos (by decide), lm_br, if_neg (by decide), ev_k57, ev_k2, ev_mul, ev_add, ev_add, ev_gi (by omega) (by omega), ev_cl (by omega), hM _ (by omega)]
          rfl
      · refine ⟨nI (g (58 + 2 * k)), ?_, ?_⟩
        · unfold F_X6_row
          rw [lm_br, if_pos rfl, b1, lm_bd_some, lm_br, if_neg (by decide), within_in, d1', lm_bd_some, lm_br, if_pos (by decide), lm_br, if_neg (by decide), lm_br, if_pos (by decide), c_value (by omega), lm_bd_some, v2']
        · unfold F_X7_row
          rw [lm_br, if_pos rfl, a1, lm_bd_some, lm_br, if_neg (by decide), d1', lm_bd_some, lm_br, if_pos (by decide), lm_br, if_neg (by decide), ev_k57, ev_k2, ev_mul, ev_add, ev_add, ev_gi (by omega) (by omega), ev_cl (by omega), hM _ (by omega), show 57 + 2 * k + 1 = 58 + 2 * k by omega]
      · refine ⟨if g 7 ≤ k then 0 else 1, ?_, ?_⟩
        · unfold F_X6_row F_X4_isDone
          rw [lm_br, if_pos rfl, b1, lm_bd_some, lm_br, if_neg (by decide), within_in, d1', lm_bd_some, lm_br, if_pos (by decide), lm_br, if_neg (by decide), lm_br, if_neg (by decide), p1]
          by_cases w : g 7 ≤ k
          · rw [lm_br, if_pos (nI_le w (by omega)), lm_bd_some, lm_br, if_pos rfl, if_pos w]
          · rw [lm_br, if_neg (nI_ge (by omega) (by omega)), lm_bd_some, lm_br, if_neg (by decide), if_neg w]
        · unfold F_X7_row
          rw [lm_br, if_pos rfl, a1, lm_bd_some, lm_br, if_neg (by decide), d1', lm_bd_some, lm_br, if_pos (by decide), lm_br, if_pos (by decide), hM 7 (by omega)]
          by_cases w : g 7 ≤ k
          · rw [lm_br, if_pos (nI_le w (by omega)), if_pos w]
          · rw [lm_br, if_neg (nI_ge (by omega) (by omega)), if_neg w]
theorem q_row1 {t c : Nat} {h : Nat → Hp} (hR : R0 t c h μ) {x1 : Int32} (hx : ¬ x1 = 0) (x2 x3 : Int32) : ∃ r, F_X6_row h x1 x2 x3 = some r ∧ F_X7_row μ x1 x2 x3 = some r := by
  obtain ⟨g, p, n, H, hC, hM, hI, hH, hHs, hIH, h6⟩ := hR
  have u1 : lm_sh 4 (h 0) 0 2 = nI (g 5) := hC.1.1.1
  obtain ⟨b5, b3, b4, hr⟩ := id hI.1
  have b16 := Nat.le_trans hI.2.2.2.2.2.1 hI.2.2.2.2.2.2.2
  rcases raw_inner hM b5 x2 with ⟨a1, a2⟩ | ⟨a1, k, a2, a3⟩
  · have b1 : F_X5_has (lm_sh 4 (h 0)) x2 = some 0 := by
      rcases raw_has u1 b5 x2 with ⟨b1, -⟩ | ⟨-, k, b2, b3⟩
      · exact b1
      · exact absurd b3 (a2 k b2)
    refine ⟨-1, ?_, ?_⟩
    · unfold F_X6_row
      rw [lm_br, if_neg hx, b1, lm_bd_some, lm_br, if_pos rfl]
    · unfold F_X7_row
      rw [lm_br, if_neg hx, a1, lm_bd_some, lm_br, if_neg (by decide)]
  · subst a3
    have b1 : F_X5_has (lm_sh 4 (h 0)) (nI k) = some 1 := by
      rcases raw_has u1 b5 (nI k) with ⟨-, b1⟩ | ⟨b1, -⟩
      · exact absurd rfl (b1 k a2)
      · exact b1
    rcases raw_in x3 (m := 2) (by omega) with ⟨d1, -⟩ | ⟨d1, j, d2, d3⟩
    · have d1' : F_X7_in x3 0 2 = some 0 := d1
      refine ⟨-1, ?_, ?_⟩
      · unfold F_X6_row
        rw [lm_br, if_neg hx, b1, lm_bd_some, lm_br, if_neg (by decide), within_in, d1', lm_bd_some, lm_br, if_neg (by decide)]
      · unfold F_X7_row
        rw [lm_br, if_neg hx, a1, lm_bd_some, lm_br, if_pos (by decide), d1', lm_bd_some, lm_br, if_neg (by decide)]
    · have d1' : F_X7_in x3 0 2 = some 1 := d1
      obtain ⟨v1, v2⟩ := hC.1.1.2 k a2
      have v1' : lm_sh 4 (h 0) 1 k = nI (g (17 + 2 * k)) := v1
      have v2' : lm_sh 4 (h 0) 2 k = nI (g (18 + 2 * k)) := v2
      obtain ⟨r1, r2⟩ := hr k a2
      subst d3
      have : j = 0 ∨ j = 1 ∨ j = 2 := by omega
      rcases this with q | q | q <;> subst q
      · refine ⟨nI (g (17 + 2 * k)), ?_, ?_⟩
        · unfold F_X6_row
          rw [lm_br, if_neg hx, b1, lm_bd_some, lm_br, if_neg (by decide), within_in, d1', lm_bd_some, lm_br, if_pos (by decide), lm_br, if_pos (by decide), c_key (by omega), lm_bd_some, v1']
        · unfold F_X7_row
          rw [lm_br, if_neg hx, a1, lm_bd_some, lm_br, if_pos (by decide), d1', lm_bd_some, lm_br, if_pos (by decide), lm_br, if_neg (by decide), ev_k17, ev_k2, ev_mul, ev_add, ev_add, ev_gi (by omega) (by omega), ev_cl (by omega), hM _ (by omega)]
          rfl
      · refine ⟨nI (g (18 + 2 * k)), ?_, ?_⟩
        · unfold F_X6_row
          rw [lm_br, if_neg hx, b1, lm_bd_some, lm_br, if_neg (by decide), within_in, d1', lm_bd_some, lm_br, if_pos (by decide), lm_br, if_neg (by decide), lm_br, if_pos (by decide), c_value (by omega), lm_bd_some, v2']
        · unfold F_X7_row
          rw [lm_br, if_neg hx, a1, lm_bd_some, lm_br, if_pos (by decide), d1', lm_bd_some, lm_br, if_pos (by decide), lm_br, if_neg (by decide), ev_k17, ev_k2, ev_mul, ev_add, ev_add, ev_gi (by omega) (by omega), ev_cl (by omega), hM _ (by omega), show 17 + 2 * k + 1 = 18 + 2 * k by omega]
      · have hkn := c_known hC.2.2.2 hI.2.2.1 b16 r1
        have hok := o_isKnown hM r1 (hI.kb _ r1)
        have hof := o_isFound hM (k := g (17 + 2 * k)) (r := k) (by omega) b5 a2 b3 b4 ⟨r1, r2⟩
        have s3 : h 0 15 3 = nI (g 3) := hC.1.2.2.2 3 (by omega)
        have s4 : h 0 15 4 = nI (g 4) := hC.1.2.2.2 4 (by omega)
        have hik : F_X7_innerKey μ (nI k) = some (nI (g (17 + 2 * k))) := by
          unfold F_X7_innerKey
          rw [ev_k17, ev_k2, ev_mul, ev_add, ev_gi (by omega) (by omega), ev_cl (by omega), hM _ (by omega)]
        have hmt : mt g (g (17 + 2 * k)) k = true ↔ (g 3 ≤ g (18 + 2 * k) ∧ g (18 + 2 * k) ≤ g 4) := by
          simp [mt]
        refine ⟨if 0 < g (97 + g (17 + 2 * k)) ∧ mt g (g (17 + 2 * k)) k = true then 1 else 0, ?_, ?_⟩
        · unfold F_X6_row F_X4_isInRememberedAnswer F_X4_isInBand
          rw [lm_br, if_neg hx, b1, lm_bd_some, lm_br, if_neg (by decide), within_in, d1', lm_bd_some, lm_br, if_pos (by decide), lm_br, if_neg (by decide), lm_br, if_neg (by decide), c_key (by omega), lm_bd_some, v1', hkn, lm_bd_some]
          by_cases w : 0 < g (97 + g (17 + 2 * k))
          · rw [if_pos w, lm_br, if_neg (by decide), c_value (by omega), lm_bd_some, v2', s3, s4]
            by_cases y1 : g 3 ≤ g (18 + 2 * k)
            · rw [lm_br, if_neg (nI_nlt y1 (by omega))]
              by_cases y2 : g (18 + 2 * k) ≤ g 4
              · rw [lm_br, if_neg (nI_nlt y2 (by omega)), lm_bd_some, lm_br, if_neg (by decide), lm_bd_some, lm_br, if_neg (by decide), if_pos ⟨w, hmt.mpr ⟨y1, y2⟩⟩]
              · rw [lm_br, if_pos (nI_lt (by omega) (by omega)), lm_bd_some, lm_br, if_pos rfl, lm_bd_some, lm_br, if_pos rfl, if_neg (fun z => y2 (hmt.mp z.2).2)]
            · rw [lm_br, if_pos (nI_lt (by omega) (by omega)), lm_bd_some, lm_br, if_pos rfl, lm_bd_some, lm_br, if_pos rfl, if_neg (fun z => y1 (hmt.mp z.2).1)]
          · rw [if_neg w, lm_br, if_pos (by decide), lm_bd_some, lm_br, if_pos rfl, if_neg (fun z => w z.1)]
        · unfold F_X7_row
          rw [lm_br, if_neg hx, a1, lm_bd_some, lm_br, if_pos (by decide), d1', lm_bd_some, lm_br, if_pos (by decide), lm_br, if_pos (by decide), hik, lm_bd_some, hok, lm_bd_some]
          by_cases w : 0 < g (97 + g (17 + 2 * k))
          · rw [if_pos w, lm_br, if_neg (by decide), lm_bd_some, hof, lm_bd_some]
            by_cases y : mt g (g (17 + 2 * k)) k = true
            · rw [if_pos y, lm_br, if_neg (by decide), if_pos ⟨w, y⟩]
            · rw [if_neg y, lm_br, if_pos (by decide), if_neg (fun z => y z.2)]
          · rw [if_neg w, lm_br, if_pos (by decide), if_neg (fun z => w z.1)]
end TQ3
