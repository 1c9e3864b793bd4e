/-! undo, save, restore, on both sides -/
section TP4
theorem c_pop {h : Nat → Hp} {p n : Nat} {H : Nat → Nat → Nat} (hH : Hc h p n H) (h0 : 0 < n) : ∃ h', F_X1_pop h = some (nI ((p + 4) % 5), h') ∧ Hc h' ((p + 4) % 5) (n - 1) H ∧ Cn (h' (3 + (p + 4) % 5)) (H (n - 1)) ∧ (∀ b, b ≠ 8 → h' b = h b) ∧ (∀ c, c ≠ 3 → h' 8 c = h 8 c) := by
  obtain ⟨a1, a2, a3, a4, a5⟩ := hH
  have n0 : ¬ nI n = (0 : Int32) := fun z => by have := (nI_eq (b := 0) (by omega) (by omega)).mp z; omega
  have hq : (p + 4) % 5 < 5 := Nat.mod_lt _ (by omega)
  have key : F_X1_pop h = some (nI ((p + 4) % 5), lm_uB (lm_uB h 8 (lm_u (h 8) 3 1 (nI ((p + 4) % 5)))) 8 (lm_u (lm_u (h 8) 3 1 (nI ((p + 4) % 5))) 3 2 (nI (n - 1)))) := by
    unfold F_X1_pop
    rw [a2, lm_br, if_pos n0, lm_lt_eq, lm_lt_eq, a1, mod5b a3, uB_same h 8 (lm_u (h 8) 3 1 (nI ((p + 4) % 5))), lu_ne (h 8) (c := 3) (i := 1) (j := 2) _ (by omega), a2, ev_k1, pk_sub (by omega)]
    have e1 : (lm_uB (lm_uB h 8 (lm_u (h 8) 3 1 (nI ((p + 4) % 5)))) 8 (lm_u (lm_u (h 8) 3 1 (nI ((p + 4) % 5))) 3 2 (nI (n - 1)))) 8 3 1 = nI ((p + 4) % 5) := by
      rw [uB_same, lu_ne _ _ (by omega), lu_same]
    rw [e1]
    generalize hm : (p + 4) % 5 = m
    rw [hm] at hq
    have : m = 0 ∨ m = 1 ∨ m = 2 ∨ m = 3 ∨ m = 4 := by omega
    rcases this with q | q | q | q | q <;> rw [q]
    · rw [lm_br, if_pos (by decide)]
      all_goals rfl
    · rw [lm_br, if_neg (by decide), lm_br, if_pos (by decide)]
      all_goals rfl
    · rw [lm_br, if_neg (by decide), lm_br, if_neg (by decide), lm_br, if_pos (by decide)]
      all_goals rfl
    · rw [lm_br, if_neg (by decide), lm_br, if_neg (by decide), lm_br, if_neg (by decide), lm_br, if_pos (by decide)]
      all_goals rfl
    · rw [lm_br, if_neg (by decide), lm_br, if_neg (by decide), lm_br, if_neg (by decide), lm_br, if_neg (by decide), lm_br, if_pos (by decide)]
      all_goals rfl
  refine ⟨_, key, ⟨?_, ?_, hq, by omega, fun i hi => ?_⟩, ?_, fun b hb => ?_, fun c hc => ?_⟩
  · rw [uB_same, lu_ne _ _ (by omega), lu_same]
  · rw [uB_same, lu_same]
  · rw [uB_ne _ _ (by omega), uB_ne _ _ (by omega), show ((p + 4) % 5 + 5 - (n - 1) + i) % 5 = (p + 5 - n + i) % 5 by omega]
    exact a5 i (by omega)
  · rw [uB_ne _ _ (by omega), uB_ne _ _ (by omega), show (p + 4) % 5 = (p + 5 - n + (n - 1)) % 5 by omega]
    exact a5 (n - 1) (by omega)
  · rw [uB_ne _ _ hb, uB_ne _ _ hb]
  · rw [uB_same, lu_c _ _ _ hc, lu_c _ _ _ hc]
theorem tp_undo {t c : Nat} {h : Nat → Hp} {μ : Hp} (hR : R0 t c h μ) : ∃ r h' μ', F_X6_undo h = some (r, h') ∧ F_X7_undo μ = some (r, μ') ∧ R0 t c h' μ' ∧ Fx h h' μ μ' := by
  obtain ⟨g, p, n, H, hC, hM, hI, hH, hHs, hIH, h6⟩ := hR
  by_cases q : n = 0
  · subst q
    refine ⟨-2, h, μ, ?_, ?_, ⟨g, p, 0, H, hC, hM, hI, hH, hHs, hIH, h6⟩, fun _ _ => rfl, fun _ _ => rfl, fun _ _ => rfl, fun _ _ => rfl⟩
    · unfold F_X6_undo F_X1_pop
      rw [hH.2.1, lm_br, if_neg (by decide), lm_b2_some, lm_br, if_pos rfl]
    · unfold F_X7_undo
      rw [hHs.1, lm_br, if_neg (by decide)]
  · obtain ⟨h1, a1, a2, a3, a4, a5⟩ := c_pop hH (by omega)
    obtain ⟨μ', b1, b2, b3, b4, b5⟩ := o_undo hHs (by omega)
    have hIn := hIH (n - 1) (by omega)
    obtain ⟨τ, k1, k2⟩ := c_copy (σ := h1 0) a3 hIn
    have hn := hHs.2.1
    refine ⟨nI (n - 1), lm_uB h1 0 τ, μ', ?_, b1, ⟨H (n - 1), (p + 4) % 5, n - 1, H, by rw [uB_same]; exact k2, b2, hIn, Hc_0 a2 _, b3, fun i hi => hIH i (by omega), by rw [b4 6 (by omega)]; exact h6⟩, fun b hb => ?_, fun d hd => ?_, b4, fun d hd => b5 d (by omega) (by omega)⟩
    · have hz : F_X1_size (lm_uB h1 0 τ) = some (nI (n - 1)) := by
        unfold F_X1_size
        rw [uB_ne _ _ (by omega), a2.2.1]
      unfold F_X6_undo
      rw [a1, lm_b2_some]
      have hq : (p + 4) % 5 < 5 := Nat.mod_lt _ (by omega)
      revert k1 hz
      generalize (p + 4) % 5 = m at hq
      intro k1 hz
      have : m = 0 ∨ m = 1 ∨ m = 2 ∨ m = 3 ∨ m = 4 := by omega
      rcases this with q | q | q | q | q <;> subst q
      · rw [lm_br, if_neg (by decide), lm_br, if_pos (by decide)]
        rw [show (3 : Nat) + 0 = 3 from rfl] at k1
        rw [k1, lm_bd_some, lm_lt_eq, hz, lm_bd_some]
      · rw [lm_br, if_neg (by decide), lm_br, if_neg (by decide), lm_br, if_pos (by decide)]
        rw [show (3 : Nat) + 1 = 4 from rfl] at k1
        rw [k1, lm_bd_some, lm_lt_eq, hz, lm_bd_some]
      · rw [lm_br, if_neg (by decide), lm_br, if_neg (by decide), lm_br, if_neg (by decide), lm_br, if_pos (by decide)]
        rw [show (3 : Nat) + 2 = 5 from rfl] at k1
        rw [k1, lm_bd_some, lm_lt_eq, hz, lm_bd_some]
      · rw [lm_br, if_neg (by decide), lm_br, if_neg (by decide), lm_br, if_neg (by decide), lm_br, if_neg (by decide), lm_br, if_pos (by decide)]
        rw [show (3 : Nat) + 3 = 6 from rfl] at k1
        rw [k1, lm_bd_some, lm_lt_eq, hz, lm_bd_some]
      · rw [lm_br, if_neg (by decide), lm_br, if_neg (by decide), lm_br, if_neg (by decide), lm_br, if_neg (by decide), lm_br, if_neg (by decide), lm_br, if_pos (by decide)]
        rw [show (3 : Nat) + 4 = 7 from rfl] at k1
        rw [k1, lm_bd_some, lm_lt_eq, hz, lm_bd_some]
    · rw [uB_ne _ _ (by omega), a4 b (by omega)]
    · rw [uB_ne _ _ (by omega), a5 d hd]
/-- the state that is kept -/
def Rk (t c : Nat) (h : Nat → Hp) (μ : Hp) : Prop := h 8 0 5 = μ 0 4 ∧ (¬ μ 0 4 = 0 → ∃ gk, Cn (h 2) gk ∧ (∀ j, j < 127 → μ 3 j = nI (gk j)) ∧ In t c gk)
theorem Rk_Fx {t c : Nat} {h h' : Nat → Hp} {μ μ' : Hp} (hR : Rk t c h μ) (hF : Fx h h' μ μ') : Rk t c h' μ' := by
  obtain ⟨f1, f2, f3, f4⟩ := hF
  unfold Rk
  rw [f2 0 (by omega), f3 4 (by omega), f1 2 (by omega), f4 3 (by omega)]
  exact hR
theorem Rk_mono {t c t' c' : Nat} {h : Nat → Hp} {μ : Hp} (hR : Rk t c h μ) (ht : t ≤ t') (hc : c ≤ c') (bt : t' ≤ 1000) (bc : c' ≤ 1000000) : Rk t' c' h μ := ⟨hR.1, fun q => by
  obtain ⟨gk, a1, a2, a3⟩ := hR.2 q
  exact ⟨gk, a1, a2, In_mono a3 ht hc bt bc⟩⟩
theorem R0_mono {t c t' c' : Nat} {h : Nat → Hp} {μ : Hp} (hR : R0 t c h μ) (ht : t ≤ t') (hc : c ≤ c') (bt : t' ≤ 1000) (bc : c' ≤ 1000000) : R0 t' c' h μ := by
  obtain ⟨g, p, n, H, hC, hM, hI, hH, hHs, hIH, h6⟩ := hR
  exact ⟨g, p, n, H, hC, hM, In_mono hI ht hc bt bc, hH, hHs, fun i hi => In_mono (hIH i hi) ht hc bt bc, h6⟩
theorem tp_save {t c : Nat} {h : Nat → Hp} {μ : Hp} (hR : R0 t c h μ) : ∃ r h' μ', F_X6_save h = some (r, h') ∧ F_X7_save μ = some (r, μ') ∧ R0 t c h' μ' ∧ Rk t c h' μ' ∧ (∀ b, b ≠ 2 → b ≠ 8 → h' b = h b) ∧ (∀ d, d ≠ 0 → h' 8 d = h 8 d) ∧ (∀ j, j ≠ 5 → h' 8 0 j = h 8 0 j) ∧ (∀ j, j ≠ 4 → μ' 0 j = μ 0 j) ∧ (∀ d, d ≠ 0 → d ≠ 3 → μ' d = μ d) := by
  obtain ⟨g, p, n, H, hC, hM, hI, hH, hHs, hIH, h6⟩ := hR
  obtain ⟨τ, k1, k2⟩ := c_copy (σ := h 2) hC hI
  obtain ⟨μ', b1, b2, b3, b4, b5⟩ := o_save hM hI.kb
  have kz := c_msize hC.2.2.2 hI.2.2.1 (Nat.le_trans hI.2.2.2.2.2.1 hI.2.2.2.2.2.2.2)
  obtain ⟨a1, a2, a3, a4, a5⟩ := hH
  have e8 : ∀ d, d ≠ 0 → (lm_uB (lm_uB h 2 τ) 8 (lm_u ((lm_uB h 2 τ) 8) 0 5 1)) 8 d = h 8 d := fun d hd => by rw [uB_same, lu_c _ _ _ hd, uB_ne _ _ (by omega)]
  have eb : ∀ b, b ≠ 2 → b ≠ 8 → (lm_uB (lm_uB h 2 τ) 8 (lm_u ((lm_uB h 2 τ) 8) 0 5 1)) b = h b := fun b h2 h8 => by rw [uB_ne _ _ h8, uB_ne _ _ h2]
  refine ⟨nI (kno g), lm_uB (lm_uB h 2 τ) 8 (lm_u ((lm_uB h 2 τ) 8) 0 5 1), μ', ?_, b1, ⟨g, p, n, H, ?_, fun j hj => ?_, hI, ⟨?_, ?_, a3, a4, fun i hi => ?_⟩, ⟨?_, hHs.2.1, fun i hi j hj => ?_⟩, hIH, ?_⟩, ⟨?_, fun _ => ⟨g, ?_, b5, hI⟩⟩, eb, e8, fun j hj => ?_, b3, b4⟩
  · unfold F_X6_save
    rw [k1, lm_bd_some, lm_lt_eq, lm_lt_eq, eb 0 (by omega) (by omega), kz, lm_bd_some]
  · rw [eb 0 (by omega) (by omega)]; exact hC
  · rw [b4 1 (by omega) (by omega)]; exact hM j hj
  · rw [e8 3 (by omega)]; exact a1
  · rw [e8 3 (by omega)]; exact a2
  · rw [eb _ (by omega) (by omega)]; exact a5 i hi
  · rw [b3 5 (by omega)]; exact hHs.1
  · rw [b4 2 (by omega) (by omega)]; exact hHs.2.2 i hi j hj
  · rw [b3 6 (by omega)]; exact h6
  · rw [uB_same, lu_same, b2]
  · rw [uB_ne _ _ (by omega), uB_same]; exact k2
  · rw [uB_same, lu_ne _ _ hj, uB_ne _ _ (by omega)]
theorem tp_restore {t c : Nat} {h : Nat → Hp} {μ : Hp} (hR : R0 t c h μ) (hK : Rk t c h μ) : ∃ r h' μ', F_X6_restore h = some (r, h') ∧ F_X7_restore μ = some (r, μ') ∧ R0 t c h' μ' ∧ Fx h h' μ μ' := by
  obtain ⟨g, p, n, H, hC, hM, hI, hH, hHs, hIH, h6⟩ := hR
  obtain ⟨ke, kk⟩ := hK
  by_cases q : μ 0 4 = 0
  · refine ⟨-2, h, μ, ?_, ?_, ⟨g, p, n, H, hC, hM, hI, hH, hHs, hIH, h6⟩, fun _ _ => rfl, fun _ _ => rfl, fun _ _ => rfl, fun _ _ => rfl⟩
    · unfold F_X6_restore
      rw [lm_br, if_neg (not_not_intro (by rw [ke]; exact q))]
    · unfold F_X7_restore
      rw [lm_br, if_neg (not_not_intro q)]
  · obtain ⟨gk, s1, s2, s3⟩ := kk q
    obtain ⟨μ4, c1, c2, c3, c4, c5⟩ := o_changes hM hHs h6
    obtain ⟨μ', d1, d2, d3⟩ := o_restore (g' := gk) q c1 (by rw [c5 3 (by omega) (by omega)]; exact s2) s3.kb
    have hop : ∃ h', cal h (fun _ => lm_bd (F_X4_copyFrom (h 0) (h 2)) fun τ => lm_bd (F_X2_size (lm_sh 11 τ)) fun r => some (r, τ)) = some (nI (kno gk), h') ∧ R0 t c h' μ' ∧ Fx h h' μ μ' := by
      refine top_ok hC hI hH hIH h6 ?_ (nI_nn _ (by have := kno_le gk; omega)) c3 c4 c5 d2 d3 s3 (Nat.le_refl _) (Nat.le_refl _)
      obtain ⟨τ, k1, k2⟩ := c_copy (σ := h 0) s1 s3
      have kz := c_msize k2.2.2.2 s3.2.2.1 (Nat.le_trans s3.2.2.2.2.2.1 s3.2.2.2.2.2.2.2)
      refine ⟨τ, ?_, k2⟩
      rw [k1, lm_bd_some, kz, lm_bd_some]
    obtain ⟨h', z1, z2, z3⟩ := hop
    refine ⟨_, h', μ', ?_, d1, z2, z3⟩
    rw [← z1]
    obtain ⟨h1, k1, k2, k3, k4⟩ := c_prepare hC hI hH
    obtain ⟨τ, m1, m2⟩ := c_copy (σ := h 0) s1 s3
    unfold F_X6_restore cal
    have hp := hH.2.2.1
    rw [lm_br, if_pos (by rw [ke]; exact q), k1, lm_bd_some, lm_bd_some, k4 0 (by omega), k4 2 (by omega), m1, lm_bd_some, lm_bd_some, lm_lt_eq, uB_same]
    have kz := c_msize m2.2.2.2 s3.2.2.1 (Nat.le_trans s3.2.2.2.2.2.1 s3.2.2.2.2.2.2.2)
    rw [kz, lm_bd_some, lm_bd_some, lm_b2_some, lm_lt_eq]
end TP4
