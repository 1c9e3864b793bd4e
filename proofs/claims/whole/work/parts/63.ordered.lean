/-! the loop in another order, on both sides -/
section IO1
variable {g : Nat → Nat}
theorem c_walk20 {σ : Hp} {t c : Nat} (hC : Cn σ g) (hI : In t c g) (hc : c + 20 ≤ 1000000) : ∃ r σ', F_X4_walk σ 20 = some (r, σ') ∧ Cn σ' (stp g 20).1 := by
  by_cases q : g 7 < g 6
  · obtain ⟨σ', w1, w2⟩ := c_walk hC hI (n := 20) (by omega) (by omega) hc q
    exact ⟨_, σ', w1, w2⟩
  · have u1 : lm_sh 1 σ 0 2 = nI (g 6) := hC.1.2.1.1
    have p1 : σ 0 6 = nI (g 7) := hC.1.2.2.1.1
    have b6 := hI.2.1.1
    have b7 := hI.2.1.2.1
    refine ⟨-2, σ, ?_, ?_⟩
    · unfold F_X4_walk
      rw [lm_br, if_neg (by decide), lm_br, if_pos (by decide), c_size, lm_bd_some, u1, p1, lm_br, if_neg (nI_nlt (by omega) (by omega))]
    · have e : stD 20 g 0 = (g, 0) := by
        rw [stD, if_neg q]
      have := Cs_11 hC hI.1 hI.2.1 (g 11 + 0)
      unfold Cn stp
      rw [e]
      dsimp only
      rw [un_same]
      exact this
theorem c_place {σ : Hp} (hC : Cn σ g) : F_X4_place σ = some (nI (g 7)) := by
  have p1 : σ 0 6 = nI (g 7) := hC.1.2.2.1.1
  unfold F_X4_place
  rw [p1]
theorem Cn_Ot {σ : Hp} (hC : Cn σ g) : Ot (lm_sh 1 σ) g := hC.1.2.1
/-- the rest of it, once the rows stand in the order asked for -/
theorem c_ord {t c : Nat} {h : Nat → Hp} {g' : Nat → Nat} (hC : Cn (h 0) g) (hT : Cn (h 1) g') (hI : In t c g') (hc : c + 20 ≤ 1000000) (e : g' 11 = g 11) : ∃ h', (lm_b2 (F_X4_walk (h 1) (20 : Int32)) fun r9 τ7 => lm_lt (lm_uB h 1 τ7) fun h8 => lm_bd (F_X6_brought h8 (2 : Int32)) fun r10 => some (r10, h8)) = some (nI (stp g' 20).2, h') ∧ ∀ k, k ≠ 1 → h' k = h k := by
  obtain ⟨r, σ', w1, w2⟩ := c_walk20 hT hI hc
  have k0 : Cn ((lm_uB h 1 σ') 0) g := by rw [uB_ne _ _ (by omega)]; exact hC
  have k1 : Cn ((lm_uB h 1 σ') 1) (stp g' 20).1 := by rw [uB_same]; exact w2
  have z := c_brought k0 k1 (j := 2) (by omega)
  rw [show 9 + 2 = 11 from rfl, stp_11, e, pk_sub (Nat.le_add_right _ _), Nat.add_sub_cancel_left] at z
  have z' : F_X6_brought (lm_uB h 1 σ') 2 = some (nI (stp g' 20).2) := z
  refine ⟨lm_uB h 1 σ', ?_, fun k hk => uB_ne _ _ hk⟩
  rw [w1, lm_b2_some, lm_lt_eq, z', lm_bd_some]
theorem o_ord {t c : Nat} {μ : Hp} {gs : Nat → Nat} (hM : Mo μ g) (hI : In t c g) (hc : c + 20 ≤ 1000000) (h4 : ∀ j, j < 127 → μ 4 j = nI (gs j)) : ∃ μ', (lm_b2 (F_X7_steps μ (20 : Int32)) fun r7 σ6 => lm_bd (F_X7_putsBack σ6) fun σ8 => some (r7, σ8)) = some (nI (stp g 20).2, μ') ∧ Mo μ' gs ∧ Fr μ μ' := by
  obtain ⟨μ3, c1, c2, c3⟩ := o_steps hM hI (n := 20) (by omega) hc
  have c1' : F_X7_steps μ 20 = _ := c1
  obtain ⟨μ4, d1, d2, d3⟩ := o_back (μ := μ3) (g := gs) (fun j hj => by rw [c3 4 (by omega)]; exact h4 j hj)
  refine ⟨μ4, ?_, d3, c3.trans d2⟩
  rw [c1', lm_b2_some, d1, lm_bd_some]
theorem q_ifOrdered {t c : Nat} (hc : c + 20 ≤ 1000000) {h : Nat → Hp} {μ : Hp} (hR : R0 t c h μ) (x1 : Int32) : ∃ r h' μ', F_X6_ifOrdered h x1 = some (r, h') ∧ F_X7_ifOrdered μ x1 = some (r, μ') ∧ R0 t c h' μ' ∧ Fq h h' μ μ' := by
  obtain ⟨g, p, n, H, hC, hM, hI, hH, hHs, hIH, h6⟩ := id hR
  rcases raw_in x1 (m := 2) (by omega) with ⟨a1, -⟩ | ⟨a1, b, hb, e⟩
  · have a1' : F_X7_in x1 0 2 = some 0 := a1
    refine ⟨-1, h, μ, ?_, ?_, hR, fun _ _ => rfl, fun _ _ _ => rfl⟩
    · unfold F_X6_ifOrdered
      rw [within_in, a1', lm_bd_some, lm_br, if_neg (by decide)]
    · unfold F_X7_ifOrdered
      rw [a1', lm_bd_some, lm_br, if_neg (by decide)]
  · have a1' : F_X7_in x1 0 2 = some 1 := a1
    obtain ⟨τ3, k1, k2⟩ := c_copy (σ := h 1) hC hI
    obtain ⟨μ1, b1, b2, b3⟩ := o_aside hM
    have hM1 : Mo μ1 g := fun j hj => by rw [b2 1 (by omega)]; exact hM j hj
    have f0 : Cn ((lm_uB h 1 τ3) 0) g := by rw [uB_ne _ _ (by omega)]; exact hC
    have f1 : (lm_uB h 1 τ3) 1 = τ3 := uB_same _ _ _
    have fin : ∀ {h2 μ2 g2}, In t c g2 → g2 11 = g 11 → Cn (h2 0) g → Cn (h2 1) g2 → Mo μ2 g2 → (∀ k, k ≠ 1 → h2 k = h k) → Fr μ1 μ2 → ∃ r h' μ', (lm_b2 (F_X4_walk (h2 1) (20 : Int32)) fun r9 τ7 => lm_lt (lm_uB h2 1 τ7) fun h8 => lm_bd (F_X6_brought h8 (2 : Int32)) fun r10 => some (r10, h8)) = some (r, h') ∧ (lm_b2 (F_X7_steps μ2 (20 : Int32)) fun r7 σ6 => lm_bd (F_X7_putsBack σ6) fun σ8 => some (r7, σ8)) = some (r, μ') ∧ R0 t c h' μ' ∧ Fq h h' μ μ' := by
      intro h2 μ2 g2 i2 e2 c0 c1 m2 fh fm
      obtain ⟨h', z1, z2⟩ := c_ord c0 c1 i2 hc e2
      obtain ⟨μ', y1, y2, y3⟩ := o_ord (gs := g) m2 i2 hc (fun j hj => by rw [fm 4 (by omega)]; exact b3 j hj)
      have hF : Fq h h' μ μ' := ⟨fun k hk => by rw [z2 k hk, fh k hk], fun d h1 h4 => by rw [y3 d h1, fm d h1, b2 d h4]⟩
      exact ⟨_, h', μ', z1, y1, R0_Fq hC hI hH hHs hIH h6 y2 hF, hF⟩
    have : b = 0 ∨ b = 1 ∨ b = 2 := by omega
    subst e
    unfold F_X6_ifOrdered F_X7_ifOrdered
    rw [within_in, a1', lm_bd_some, lm_bd_some, lm_br, if_pos (by decide), lm_br, if_pos (by decide), k1, b1, lm_bd_some, lm_bd_some, lm_lt_eq]
    rcases this with q | q | q <;> subst q
    · rw [lm_br, if_pos (by decide), lm_br, if_pos (by decide), lm_br, if_pos (by decide), lm_br, if_pos (by decide)]
      exact fin (h2 := lm_uB h 1 τ3) (μ2 := μ1) (g2 := g) hI rfl f0 (by rw [f1]; exact k2) hM1 (fun k hk => uB_ne _ _ hk) Fr.rf
    · obtain ⟨τ', μ', g', s1, s2, s3, s4, s5, s6, s7⟩ := sort_both hI (Cn_Ot k2) hM1
      rw [lm_br, if_neg (by decide), lm_br, if_neg (by decide), f1, c_place k2, s2, lm_bd_some, s1, lm_bd_some, lm_lt_eq, lm_bd_some, lm_br, if_pos (by decide)]
      exact fin (h2 := lm_uB (lm_uB h 1 τ3) 1 (lm_sb τ3 1 3 τ')) (μ2 := μ') (g2 := g') s5 (s6 11 (by omega)) (by rw [uB_ne _ _ (by omega)]; exact f0) (by rw [uB_same]; exact Cn_Eo k2 s6 hI.1.1 s3) s4 (fun k hk => by rw [uB_ne _ _ hk, uB_ne _ _ hk]) s7
    · obtain ⟨τ', μ', g', s1, s2, s3, s4, s5, s6, s7⟩ := turn_both hI (Cn_Ot k2) hM1
      rw [lm_br, if_pos (by decide), lm_br, if_neg (by decide), lm_br, if_pos (by decide), lm_br, if_neg (by decide), f1, c_place k2, s2, lm_bd_some, s1, lm_bd_some, lm_lt_eq, lm_bd_some]
      exact fin (h2 := lm_uB (lm_uB h 1 τ3) 1 (lm_sb τ3 1 3 τ')) (μ2 := μ') (g2 := g') s5 (s6 11 (by omega)) (by rw [uB_ne _ _ (by omega)]; exact f0) (by rw [uB_same]; exact Cn_Eo k2 s6 hI.1.1 s3) s4 (fun k hk => by rw [uB_ne _ _ hk, uB_ne _ _ hk]) s7
end IO1
