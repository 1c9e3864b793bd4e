/-! the other calls on the state -/
section TP2
theorem t_drop {t c : Nat} (ht : t < 1000) {h : Nat → Hp} {μ : Hp} (hR : R0 t c h μ) (x1 x2 : Int32) : ∃ r h' μ', F_X6_drop h x1 x2 = some (r, h') ∧ F_X7_drop μ x1 x2 = some (r, μ') ∧ (R0 t c h' μ' ∨ R0 (t + 1) c h' μ') ∧ Fx h h' μ μ' := by
  obtain ⟨g, p, n, H, hC, hM, hI, hH, hHs, hIH, h6⟩ := hR
  have hcal : F_X6_drop h x1 x2 = cal h (fun σ => F_X4_removeRow σ x1 x2) := rfl
  rw [hcal]
  have u1 : lm_sh 1 (h 0) 0 2 = nI (g 6) := hC.1.2.1.1
  have i1 : lm_sh 4 (h 0) 0 2 = nI (g 5) := hC.1.1.1
  obtain ⟨μ4, c1, c2, c3, c4, c5⟩ := o_changes hM hHs h6
  by_cases q1 : x1 = 0
  · subst q1
    rcases raw_outer hM hI.2.1.1 x2 with ⟨a1, a2⟩ | ⟨a1, k, a2, a3⟩
    · have b1 : F_X5_has (lm_sh 1 (h 0)) x2 = some 0 := by
        rcases raw_has u1 hI.2.1.1 x2 with ⟨b1, -⟩ | ⟨-, k, b2, b3⟩
        · exact b1
        · exact absurd b3 (a2 k b2)
      obtain ⟨h', z1, z2, z3⟩ := top_no hC hM hI hH hHs hIH h6 (OP := fun σ => F_X4_removeRow σ 0 x2) (r := -1) (by
        unfold F_X4_removeRow
        rw [lm_br, if_pos rfl, b1, lm_bd_some, lm_br, if_neg (by decide)]) (by decide)
      refine ⟨-1, h', μ, z1, ?_, Or.inl z2, z3⟩
      unfold F_X7_drop
      rw [lm_br, if_pos rfl, a1, lm_bd_some, lm_br, if_neg (by decide)]
    · subst a3
      obtain ⟨μ', d1, d2, d3⟩ := o_drop0 hM c1 c2 hI.2.1 a2
      obtain ⟨h', z1, z2, z3⟩ := top_ok hC hI hH hIH h6 (OP := fun σ => F_X4_removeRow σ 0 (nI k)) (c_rem0 hC hI a2) (nI_nn _ (by have := hI.2.1.1; omega)) c3 c4 c5 d2 d3 (drO_In hI ht a2) (Nat.le_succ _) (Nat.le_refl _)
      exact ⟨_, h', μ', z1, d1, Or.inr z2, z3⟩
  · rcases raw_inner hM hI.1.1 x2 with ⟨a1, a2⟩ | ⟨a1, k, a2, a3⟩
    · have b1 : F_X5_has (lm_sh 4 (h 0)) x2 = some 0 := by
        rcases raw_has i1 hI.1.1 x2 with ⟨b1, -⟩ | ⟨-, k, b2, b3⟩
        · exact b1
        · exact absurd b3 (a2 k b2)
      obtain ⟨h', z1, z2, z3⟩ := top_no hC hM hI hH hHs hIH h6 (OP := fun σ => F_X4_removeRow σ x1 x2) (r := -1) (by
        unfold F_X4_removeRow
        rw [lm_br, if_neg q1, b1, lm_bd_some, lm_br, if_neg (by decide)]) (by decide)
      refine ⟨-1, h', μ, z1, ?_, Or.inl z2, z3⟩
      unfold F_X7_drop
      rw [lm_br, if_neg q1, a1, lm_bd_some, lm_br, if_neg (by decide)]
    · subst a3
      obtain ⟨μ', d1, d2, d3⟩ := o_drop1 hM c1 c2 hI q1 a2
      obtain ⟨h', z1, z2, z3⟩ := top_ok hC hI hH hIH h6 (OP := fun σ => F_X4_removeRow σ x1 (nI k)) (c_rem1 hC hI q1 a2) (nI_nn _ (by have := hI.1.1; omega)) c3 c4 c5 d2 d3 (kp_In (drI_In hI a2) _ _) (Nat.le_refl _) (Nat.le_refl _)
      exact ⟨_, h', μ', z1, d1, Or.inl z2, z3⟩
theorem kno_le (g : Nat → Nat) : kno g ≤ 10 := kD_le g 10 0
theorem t_change {t c : Nat} {h : Nat → Hp} {μ : Hp} (hR : R0 t c h μ) (x1 x2 x3 : Int32) : ∃ r h' μ', F_X6_change h x1 x2 x3 = some (r, h') ∧ F_X7_change μ x1 x2 x3 = some (r, μ') ∧ R0 t c h' μ' ∧ Fx h h' μ μ' := by
  obtain ⟨g, p, n, H, hC, hM, hI, hH, hHs, hIH, h6⟩ := hR
  have hcal : F_X6_change h x1 x2 x3 = cal h (fun σ => F_X4_rewriteRow σ x1 x2 x3) := rfl
  rw [hcal]
  have i1 : lm_sh 4 (h 0) 0 2 = nI (g 5) := hC.1.1.1
  obtain ⟨μ4, c1, c2, c3, c4, c5⟩ := o_changes hM hHs h6
  rcases raw_inner hM hI.1.1 x1 with ⟨a1, a2⟩ | ⟨a1, k, a2, a3⟩
  · have b1 : F_X5_has (lm_sh 4 (h 0)) x1 = some 0 := by
      rcases raw_has i1 hI.1.1 x1 with ⟨b1, -⟩ | ⟨-, k, b2, b3⟩
      · exact b1
      · exact absurd b3 (a2 k b2)
    obtain ⟨h', z1, z2, z3⟩ := top_no hC hM hI hH hHs hIH h6 (OP := fun σ => F_X4_rewriteRow σ x1 x2 x3) (r := -1) (by
      unfold F_X4_rewriteRow
      rw [b1, lm_bd_some, lm_br, if_pos rfl]) (by decide)
    refine ⟨-1, h', μ, z1, ?_, z2, z3⟩
    unfold F_X7_change
    rw [a1, lm_bd_some, lm_br, if_pos rfl]
  · have b1 : F_X5_has (lm_sh 4 (h 0)) x1 = some 1 := by
      rcases raw_has i1 hI.1.1 x1 with ⟨-, b1⟩ | ⟨b1, -⟩
      · exact absurd a3 (b1 k a2)
      · exact b1
    rcases raw_row x2 x3 with ⟨r1, r2⟩ | ⟨-, w, v, hw, hv, e2, e3⟩
    · obtain ⟨h', z1, z2, z3⟩ := top_no hC hM hI hH hHs hIH h6 (OP := fun σ => F_X4_rewriteRow σ x1 x2 x3) (r := -1) (by
        unfold F_X4_rewriteRow
        rw [b1, lm_bd_some, lm_br, if_neg (by decide), r2, lm_bd_some, lm_br, if_neg (by decide)]) (by decide)
      refine ⟨-1, h', μ, z1, ?_, z2, z3⟩
      unfold F_X7_change
      rw [a1, lm_bd_some, lm_br, if_neg (by decide), r1, lm_bd_some, lm_br, if_neg (by decide)]
    · subst a3
      subst e2
      subst e3
      obtain ⟨μ', d1, d2, d3⟩ := o_change hM c1 c2 hI a2 hw hv
      obtain ⟨h', z1, z2, z3⟩ := top_ok hC hI hH hIH h6 (OP := fun σ => F_X4_rewriteRow σ (nI k) (nI w) (nI v)) (c_rewrite hC hI a2 hw hv) (nI_nn _ (by have := kno_le (kp (chG g k w v) (g (17 + 2 * k)) w); omega)) c3 c4 c5 d2 d3 (kp_In (chG_In hI a2 hw hv) _ _) (Nat.le_refl _) (Nat.le_refl _)
      exact ⟨_, h', μ', z1, d1, z2, z3⟩
theorem t_again {t c : Nat} {h : Nat → Hp} {μ : Hp} (hR : R0 t c h μ) : ∃ r h' μ', F_X6_again h = some (r, h') ∧ F_X7_again μ = some (r, μ') ∧ R0 t c h' μ' ∧ Fx h h' μ μ' := by
  obtain ⟨g, p, n, H, hC, hM, hI, hH, hHs, hIH, h6⟩ := hR
  have hcal : F_X6_again h = cal h F_X4_beginAgain := rfl
  rw [hcal]
  obtain ⟨μ4, c1, c2, c3, c4, c5⟩ := o_changes hM hHs h6
  obtain ⟨μ', d1, d2, d3⟩ := o_again c1 c2
  have b8 : g 8 < 2147483648 := by
    have h7 := hI.2.1.2.1
    have h6' := hI.2.1.1
    obtain ⟨h8, -, ht, -⟩ := hI.2.2.2.2
    omega
  obtain ⟨h', z1, z2, z3⟩ := top_ok hC hI hH hIH h6 (OP := F_X4_beginAgain) (c_again hC hI) (nI_nn _ b8) c3 c4 c5 d2 d3 (agG_In hI) (Nat.le_refl _) (Nat.le_refl _)
  exact ⟨_, h', μ', z1, d1, z2, z3⟩
theorem t_forget {t c : Nat} {h : Nat → Hp} {μ : Hp} (hR : R0 t c h μ) : ∃ r h' μ', F_X6_forget h = some (r, h') ∧ F_X7_forget μ = some (r, μ') ∧ R0 t c h' μ' ∧ Fx h h' μ μ' := by
  obtain ⟨g, p, n, H, hC, hM, hI, hH, hHs, hIH, h6⟩ := hR
  have hcal : F_X6_forget h = cal h F_X4_throwAllOut := rfl
  rw [hcal]
  obtain ⟨μ4, c1, c2, c3, c4, c5⟩ := o_changes hM hHs h6
  obtain ⟨μ', d1, d2, d3⟩ := o_forget c1 c2 hI
  obtain ⟨h', z1, z2, z3⟩ := top_ok hC hI hH hIH h6 (OP := F_X4_throwAllOut) (c_forget hC hI) (nI_nn _ (by have := kno_le g; omega)) c3 c4 c5 d2 d3 (la_In hI) (Nat.le_refl _) (Nat.le_refl _)
  exact ⟨_, h', μ', z1, d1, z2, z3⟩
theorem raw_step (x : Int32) : (x < 1 ∧ F_X7_in x 1 20 = some 0) ∨ (¬ x < 1 ∧ ¬ x ≤ 20 ∧ F_X7_in x 1 20 = some 0) ∨ (∃ k, 1 ≤ k ∧ k ≤ 20 ∧ x = nI k ∧ F_X7_in x 1 20 = some 1) := by
  unfold F_X7_in
  by_cases q : x < 1
  · exact Or.inl ⟨q, by rw [lm_br, if_pos q]⟩
  · have h0 : ¬ x < 0 := fun z => q (Int32.lt_trans z (by decide))
    obtain ⟨k, hk, e⟩ := raw_nat h0
    subst e
    have k1 : 1 ≤ k := by
      by_cases w : 1 ≤ k
      · exact w
      · exact absurd (nI_lt (a := k) (b := 1) (by omega) (by omega)) q
    by_cases w : k ≤ 20
    · refine Or.inr (Or.inr ⟨k, k1, w, rfl, ?_⟩)
      rw [lm_br, if_neg q, lm_br, if_neg (show ¬ (20 : Int32) < nI k from nI_nlt (a := 20) (b := k) w (by omega))]
    · refine Or.inr (Or.inl ⟨q, nI_ge (a := 20) (b := k) (by omega) (by omega), ?_⟩)
      rw [lm_br, if_neg q, lm_br, if_pos (show (20 : Int32) < nI k from nI_lt (a := 20) (b := k) (by omega) (by omega))]
theorem stD_le : ∀ d (g : Nat → Nat) n, g 5 ≤ 20 → g 6 ≤ 20 → (stD d g n).2 ≤ n + 22 * d
  | 0, _, _, _, _ => Nat.le_refl _
  | d + 1, g, n, h5, h6 => by
    rw [stD]
    split
    · have e5 : (s1 g).1 5 = g 5 := by
        unfold s1
        dsimp only
        rw [un_ne _ _ (by omega), un_ne _ _ (by omega)]
        exact lk_Sm g _ 5 (by omega) (by omega)
      have e6 : (s1 g).1 6 = g 6 := by
        unfold s1
        dsimp only
        rw [un_ne _ _ (by omega), un_ne _ _ (by omega)]
        exact lk_Sm g _ 6 (by omega) (by omega)
      have l2 : (s1 g).2 ≤ 22 := by
        show (lk g (g (57 + 2 * g 7))).2 ≤ 22
        unfold lk
        split
        · dsimp only; omega
        · split <;> dsimp only <;> omega
      have := stD_le d (s1 g).1 (n + (s1 g).2) (by omega) (by omega)
      omega
    · exact Nat.le_add_right _ _
theorem t_step {t c : Nat} (hc : c + 20 ≤ 1000000) {h : Nat → Hp} {μ : Hp} (hR : R0 t c h μ) (x1 : Int32) : ∃ r h' μ', F_X6_step h x1 = some (r, h') ∧ F_X7_step μ x1 = some (r, μ') ∧ (R0 t c h' μ' ∨ R0 t (c + 20) h' μ') ∧ Fx h h' μ μ' := by
  obtain ⟨g, p, n, H, hC, hM, hI, hH, hHs, hIH, h6⟩ := hR
  have hcal : F_X6_step h x1 = cal h (fun σ => F_X4_walk σ x1) := rfl
  rw [hcal]
  obtain ⟨μ4, c1, c2, c3, c4, c5⟩ := o_changes hM hHs h6
  have b6 := hI.2.1.1
  have b7 := hI.2.1.2.1
  rcases raw_step x1 with ⟨a1, a2⟩ | ⟨a1, a2, a3⟩ | ⟨k, a1, a2, a3, a4⟩
  · obtain ⟨h', z1, z2, z3⟩ := top_no hC hM hI hH hHs hIH h6 (OP := fun σ => F_X4_walk σ x1) (r := -1) (by
      unfold F_X4_walk
      rw [lm_br, if_pos a1]) (by decide)
    refine ⟨-1, h', μ, z1, ?_, Or.inl z2, z3⟩
    unfold F_X7_step
    rw [a2, lm_bd_some, lm_br, if_neg (by decide)]
  · obtain ⟨h', z1, z2, z3⟩ := top_no hC hM hI hH hHs hIH h6 (OP := fun σ => F_X4_walk σ x1) (r := -1) (by
      unfold F_X4_walk
      rw [lm_br, if_neg a1, lm_br, if_neg a2]) (by decide)
    refine ⟨-1, h', μ, z1, ?_, Or.inl z2, z3⟩
    unfold F_X7_step
    rw [a3, lm_bd_some, lm_br, if_neg (by decide)]
  · subst a3
    by_cases q : g 7 = g 6
    · have u1 : lm_sh 1 (h 0) 0 2 = nI (g 6) := hC.1.2.1.1
      have p1 : h 0 0 6 = nI (g 7) := hC.1.2.2.1.1
      obtain ⟨h', z1, z2, z3⟩ := top_no hC hM hI hH hHs hIH h6 (OP := fun σ => F_X4_walk σ (nI k)) (r := -2) (by
        unfold F_X4_walk
        rw [lm_br, if_neg (show ¬ nI k < 1 from nI_nlt (a := k) (b := 1) a1 (by omega)), lm_br, if_pos (show nI k ≤ 20 from nI_le (a := k) (b := 20) a2 (by omega)), c_size, lm_bd_some, u1, p1, lm_br, if_neg (nI_nlt (by omega) (by omega))]) (by decide)
      refine ⟨-2, h', μ, z1, ?_, Or.inl z2, z3⟩
      unfold F_X7_step
      rw [a4, lm_bd_some, lm_br, if_pos (by decide), lm_br, hM 7 (by omega), hM 6 (by omega), if_neg (not_not_intro (by rw [q]))]
    · obtain ⟨μ', d1, d2, d3⟩ := o_steps c2 hI a2 (by omega)
      have hJ := stp_In hI (n := k) (by omega)
      have hb : (stp g k).2 ≤ 440 := by
        have := stD_le k g 0 hI.1.1 b6
        unfold stp
        dsimp only
        omega
      obtain ⟨h', z1, z2, z3⟩ := top_ok hC hI hH hIH h6 (OP := fun σ => F_X4_walk σ (nI k)) (c_walk hC hI a1 a2 (by omega) (by omega)) (nI_nn _ (by omega)) c3 c4 c5 d2 d3 (In_mono hJ (Nat.le_refl t) (show c + k ≤ c + 20 by omega) hI.2.2.2.2.2.2.1 hc) (Nat.le_refl _) (by omega)
      refine ⟨_, h', μ', z1, ?_, Or.inr z2, z3⟩
      unfold F_X7_step
      rw [a4, lm_bd_some, lm_br, if_pos (by decide), lm_br, hM 7 (by omega), hM 6 (by omega), if_pos (fun z => q ((nI_eq (by omega) (by omega)).mp z)), c1, lm_bd_some, d1, lm_b2_some]
end TP2
