/-! the call that sets, on both sides -/
section TP3
theorem set_ref {μ : Hp} {k : Nat} (hk : k < 5) (x2 : Int32) : F_X7_set μ (nI k) x2 = (lm_bd (F_X7_in x2 0 (nI (hsN k))) fun r => lm_br (¬ r = 0) (lm_bd (F_X7_changes μ) fun σ => lm_b2 (F_X7_sets σ (nI k) x2) fun r9 σ8 => some (r9, σ8)) (some ((-1 : Int32), μ))) := by
  have h1 : F_X7_in (nI k) 0 4 = some (nI 1) := (o_in k 0 4 (by omega) (by omega) (by omega)).trans (by rw [if_pos (by omega)])
  unfold F_X7_set
  rw [h1, lm_bd_some, lm_br, if_neg (by decide)]
  have : k = 0 ∨ k = 1 ∨ k = 2 ∨ k = 3 ∨ k = 4 := by omega
  rcases this with q | q | q | q | q <;> subst q
  · rw [lm_br, if_neg (by decide)]
    rfl
  · rw [lm_br, if_pos (by decide), lm_br, if_neg (by decide)]
    rfl
  · rw [lm_br, if_pos (by decide), lm_br, if_neg (by decide)]
    rfl
  · rw [lm_br, if_pos (by decide), lm_br, if_pos (by decide)]
    rfl
  · rw [lm_br, if_pos (by decide), lm_br, if_pos (by decide)]
    rfl
theorem hs_le {k : Nat} (hk : k < 5) : hsN k ≤ 99 := by
  have : k = 0 ∨ k = 1 ∨ k = 2 ∨ k = 3 ∨ k = 4 := by omega
  rcases this with q | q | q | q | q <;> subst q <;> decide
theorem tp_set {t c : Nat} {h : Nat → Hp} {μ : Hp} (hR : R0 t c h μ) (x1 x2 : Int32) : ∃ r h' μ', F_X6_set h x1 x2 = some (r, h') ∧ F_X7_set μ x1 x2 = some (r, μ') ∧ R0 t c h' μ' ∧ Fx h h' μ μ' := by
  obtain ⟨g, p, n, H, hC, hM, hI, hH, hHs, hIH, h6⟩ := hR
  have hcal : F_X6_set h x1 x2 = cal h (fun σ => F_X4_adjust σ x1 x2) := rfl
  rw [hcal]
  by_cases q1 : x1 < 0
  · obtain ⟨h', z1, z2, z3⟩ := top_no hC hM hI hH hHs hIH h6 (OP := fun σ => F_X4_adjust σ x1 x2) (r := -1) (by
      unfold F_X4_adjust
      rw [lm_br, if_pos q1]) (by decide)
    refine ⟨-1, h', μ, z1, ?_, z2, z3⟩
    unfold F_X7_set
    rw [neg_in q1, lm_bd_some, lm_br, if_pos rfl]
  · obtain ⟨k, hk, e⟩ := raw_nat q1
    subst e
    by_cases q4 : k < 5
    · have g4 : ¬ (4 : Int32) < nI k := nI_nlt (a := 4) (b := k) (by omega) (by omega)
      by_cases q2 : x2 < 0
      · obtain ⟨h', z1, z2, z3⟩ := top_no hC hM hI hH hHs hIH h6 (OP := fun σ => F_X4_adjust σ (nI k) x2) (r := -1) (by
          unfold F_X4_adjust
          rw [lm_br, if_neg q1, lm_br, if_neg g4, lm_br, if_pos q2]) (by decide)
        refine ⟨-1, h', μ, z1, ?_, z2, z3⟩
        rw [set_ref q4, neg_in q2, lm_bd_some, lm_br, if_neg (by decide)]
      · obtain ⟨v, hv, e⟩ := raw_nat q2
        subst e
        have hin : F_X7_in (nI v) 0 (nI (hsN k)) = some (if v ≤ hsN k then nI 1 else nI 0) := (o_in v 0 (hsN k) hv (by omega) (by have := hs_le q4; omega)).trans (by
          by_cases w : v ≤ hsN k
          · rw [if_pos ⟨Nat.zero_le _, w⟩, if_pos w]
          · rw [if_neg (fun z => w z.2), if_neg w])
        by_cases w : v ≤ hsN k
        · obtain ⟨μ4, c1, c2, c3, c4, c5⟩ := o_changes hM hHs h6
          obtain ⟨μ', d1, d2, d3⟩ := o_sets c2 hI q4 w
          have hb : seN g k v ≤ 10 := by
            unfold seN
            split
            · exact mr_le _ _
            · exact kno_le _
          obtain ⟨h', z1, z2, z3⟩ := top_ok hC hI hH hIH h6 (OP := fun σ => F_X4_adjust σ (nI k) (nI v)) (c_adjust hC hI q4 w) (nI_nn _ (by omega)) c3 c4 c5 d2 d3 (seG_In hI q4 w) (Nat.le_refl _) (Nat.le_refl _)
          refine ⟨_, h', μ', z1, ?_, z2, z3⟩
          rw [set_ref q4, hin, if_pos w, lm_bd_some, lm_br, if_pos (by decide), c1, lm_bd_some, d1, lm_b2_some]
        · obtain ⟨h', z1, z2, z3⟩ := top_no hC hM hI hH hHs hIH h6 (OP := fun σ => F_X4_adjust σ (nI k) (nI v)) (r := -1) (by
            unfold F_X4_adjust
            rw [lm_br, if_neg q1, lm_br, if_neg g4, lm_br, if_neg q2, ev_gi (by omega) (by omega), ev_cl (by omega), hs_eq q4, lm_br, if_neg (nI_ge (by omega) hv)]) (by decide)
          refine ⟨-1, h', μ, z1, ?_, z2, z3⟩
          rw [set_ref q4, hin, if_neg w, lm_bd_some, lm_br, if_neg (by decide)]
    · have g4 : (4 : Int32) < nI k := nI_lt (a := 4) (b := k) (by omega) (by omega)
      obtain ⟨h', z1, z2, z3⟩ := top_no hC hM hI hH hHs hIH h6 (OP := fun σ => F_X4_adjust σ (nI k) x2) (r := -1) (by
        unfold F_X4_adjust
        rw [lm_br, if_neg q1, lm_br, if_pos g4]) (by decide)
      refine ⟨-1, h', μ, z1, ?_, z2, z3⟩
      have h1 : F_X7_in (nI k) 0 4 = some (nI 0) := (o_in k 0 4 (by omega) (by omega) (by omega)).trans (by rw [if_neg (by omega)])
      unfold F_X7_set
      rw [h1, lm_bd_some, lm_br, if_pos (by decide)]
end TP3
