/-! the calls on the pad, on both sides -/
section PT1
theorem sb1_0 (σ τ : Hp) : lm_sh 1 (lm_sb σ 1 2 τ) 0 = τ 0 := sb_in σ τ (o := 1) (n := 2) (c := 0) (by omega)
theorem sb1_1 (σ τ : Hp) : lm_sh 1 (lm_sb σ 1 2 τ) 1 = τ 1 := sb_in σ τ (o := 1) (n := 2) (c := 1) (by omega)
theorem sb1_o (σ τ : Hp) {c : Nat} (h1 : c ≠ 1) (h2 : c ≠ 2) : lm_sb σ 1 2 τ c = σ c := sb_out σ τ (by omega)
/-- class and reference hold the same pad -/
def Rp (h : Nat → Hp) (μ : Hp) : Prop := ∃ C n, CP (lm_sh 1 (h 8)) C n ∧ RP μ C n
/-- class and reference tell of the same stop -/
def Rs (h : Nat → Hp) (μ : Hp) : Prop := (μ 0 9 = 0 ∧ h 8 0 6 = 0) ∨ (μ 0 9 = 1 ∧ ¬ h 8 0 6 = 0 ∧ h 8 0 6 = μ 6 0 ∧ h 8 0 7 = μ 6 1 ∧ h 8 0 8 = μ 6 2)
def RR (t c : Nat) (h : Nat → Hp) (μ : Hp) : Prop := R0 t c h μ ∧ Rk t c h μ ∧ Rp h μ ∧ Rs h μ
/-- only the pad is touched -/
def Fa (h h' : Nat → Hp) (μ μ' : Hp) : Prop := (∀ b, b ≠ 8 → h' b = h b) ∧ (∀ c, c ≠ 1 → c ≠ 2 → h' 8 c = h 8 c) ∧ (∀ j, j ≠ 8 → j ≠ 11 → j ≠ 12 → μ' 0 j = μ 0 j) ∧ (∀ c, c ≠ 0 → c ≠ 5 → c ≠ 7 → μ' c = μ c)
theorem R0_Fa {t c : Nat} {h h' : Nat → Hp} {μ μ' : Hp} (hR : R0 t c h μ) (hF : Fa h h' μ μ') : R0 t c h' μ' := by
  obtain ⟨g, p, n, H, hC, hM, hI, ⟨a1, a2, a3, a4, a5⟩, ⟨b1, b2, b3⟩, hIH, h6⟩ := hR
  obtain ⟨f1, f2, f3, f4⟩ := hF
  refine ⟨g, p, n, H, by rw [f1 0 (by omega)]; exact hC, fun j hj => by rw [f4 1 (by omega) (by omega) (by omega)]; exact hM j hj, hI, ⟨?_, ?_, a3, a4, fun i hi => ?_⟩, ⟨?_, b2, fun i hi j hj => ?_⟩, hIH, ?_⟩
  · rw [f2 3 (by omega) (by omega)]; exact a1
  · rw [f2 3 (by omega) (by omega)]; exact a2
  · rw [f1 _ (by omega)]; exact a5 i hi
  · rw [f3 5 (by omega) (by omega) (by omega)]; exact b1
  · rw [f4 2 (by omega) (by omega) (by omega)]; exact b3 i hi j hj
  · rw [f3 6 (by omega) (by omega) (by omega)]; exact h6
theorem Rk_Fa {t c : Nat} {h h' : Nat → Hp} {μ μ' : Hp} (hR : Rk t c h μ) (hF : Fa h h' μ μ') : Rk t c h' μ' := by
  obtain ⟨f1, f2, f3, f4⟩ := hF
  unfold Rk
  rw [f2 0 (by omega) (by omega), f3 4 (by omega) (by omega) (by omega), f1 2 (by omega), f4 3 (by omega) (by omega) (by omega)]
  exact hR
theorem Rs_Fa {h h' : Nat → Hp} {μ μ' : Hp} (hR : Rs h μ) (hF : Fa h h' μ μ') : Rs h' μ' := by
  obtain ⟨f1, f2, f3, f4⟩ := hF
  unfold Rs
  rw [f2 0 (by omega) (by omega), f3 9 (by omega) (by omega) (by omega), f4 6 (by omega) (by omega) (by omega)]
  exact hR
theorem RR_Fa {t c : Nat} {h h' : Nat → Hp} {μ μ' : Hp} (hR : RR t c h μ) (hF : Fa h h' μ μ') (hP : Rp h' μ') : RR t c h' μ' := ⟨R0_Fa hR.1 hF, Rk_Fa hR.2.1 hF, hP, Rs_Fa hR.2.2.2 hF⟩
theorem Rp_of {h h' : Nat → Hp} {μ μ' : Hp} (hR : Rp h μ) (e : h' 8 1 1 = h 8 1 1 ∧ h' 8 2 = h 8 2) (f : μ' 0 8 = μ 0 8 ∧ μ' 5 = μ 5) : Rp h' μ' := by
  obtain ⟨C, n, hP, hQ⟩ := hR
  exact ⟨C, n, hP.of e.1 e.2, hQ.of f.1 f.2⟩
theorem RR_Fx {t c t' c' : Nat} {h h' : Nat → Hp} {μ μ' : Hp} (hR : RR t c h μ) (hF : Fx h h' μ μ') (h0 : R0 t' c' h' μ') (ht : t ≤ t') (hc : c ≤ c') (bt : t' ≤ 1000) (bc : c' ≤ 1000000) : RR t' c' h' μ' := by
  refine ⟨h0, Rk_mono (Rk_Fx hR.2.1 hF) ht hc bt bc, ?_, ?_⟩
  · obtain ⟨f1, f2, f3, f4⟩ := hF
    exact Rp_of hR.2.2.1 ⟨by rw [f2 1 (by omega)], f2 2 (by omega)⟩ ⟨f3 8 (by omega), f4 5 (by omega)⟩
  · obtain ⟨f1, f2, f3, f4⟩ := hF
    unfold Rs
    rw [f2 0 (by omega), f3 9 (by omega), f4 6 (by omega)]
    exact hR.2.2.2
theorem RR_Fq {t c : Nat} {h h' : Nat → Hp} {μ μ' : Hp} (hR : RR t c h μ) (hF : Fq h h' μ μ') (h0 : R0 t c h' μ') : RR t c h' μ' := by
  obtain ⟨f1, f2⟩ := hF
  refine ⟨h0, ?_, ?_, ?_⟩
  · unfold Rk
    rw [f1 8 (by omega), f1 2 (by omega), f2 0 (by omega) (by omega), f2 3 (by omega) (by omega)]
    exact hR.2.1
  · exact Rp_of hR.2.2.1 ⟨by rw [f1 8 (by omega)], by rw [f1 8 (by omega)]⟩ ⟨by rw [f2 0 (by omega) (by omega)], f2 5 (by omega) (by omega)⟩
  · unfold Rs
    rw [f1 8 (by omega), f2 0 (by omega) (by omega), f2 6 (by omega) (by omega)]
    exact hR.2.2.2
theorem RR_mono {t c t' c' : Nat} {h : Nat → Hp} {μ : Hp} (hR : RR t c h μ) (ht : t ≤ t') (hc : c ≤ c') (bt : t' ≤ 1000) (bc : c' ≤ 1000000) : RR t' c' h μ := ⟨R0_mono hR.1 ht hc bt bc, Rk_mono hR.2.1 ht hc bt bc, hR.2.2⟩
theorem Fa.same {h : Nat → Hp} {μ : Hp} (σ : Hp) : Fa h (lm_uB h 8 (lm_sb (h 8) 1 2 σ)) μ μ := ⟨fun b hb => uB_ne _ _ hb, fun c h1 h2 => by rw [uB_same, sb1_o _ _ h1 h2], fun _ _ _ _ => rfl, fun _ _ _ _ => rfl⟩
theorem tp_append {t c : Nat} {h : Nat → Hp} {μ : Hp} (hR : RR t c h μ) (x : Int32) : ∃ r h' μ', F_X6_append h x = some (r, h') ∧ F_X7_append μ x = some (r, μ') ∧ RR t c h' μ' := by
  obtain ⟨C, n, hP, hQ⟩ := hR.2.2.1
  obtain ⟨p1, p2, p3, p4⟩ := id hP
  obtain ⟨q1, q2, q3, q4⟩ := id hQ
  have no : ∀ r, F_X3_push (lm_sh 1 (h 8)) x = some (r, lm_sh 1 (h 8)) → F_X7_append μ x = some (r, μ) → ∃ r h' μ', F_X6_append h x = some (r, h') ∧ F_X7_append μ x = some (r, μ') ∧ RR t c h' μ' := by
    intro r z1 z2
    refine ⟨r, lm_uB h 8 (lm_sb (h 8) 1 2 (lm_sh 1 (h 8))), μ, ?_, z2, RR_Fa hR (Fa.same _) ⟨C, n, ?_, hQ⟩⟩
    · unfold F_X6_append
      rw [z1, lm_b2_some, lm_lt_eq]
    · rw [uB_same]
      exact hP.of (by rw [sb1_0]) (sb1_1 _ _)
  by_cases l : x < 33
  · apply no (-1)
    · unfold F_X3_push
      rw [lm_br, if_pos l]
    · unfold F_X7_append F_X7_in
      rw [lm_br, if_pos l, lm_bd_some, lm_br, if_neg (by decide)]
  · have h0 : ¬ x < 0 := fun z => l (Int32.lt_trans z (by decide))
    obtain ⟨k, hk, e⟩ := raw_nat h0
    subst e
    have k33 : 33 ≤ k := by
      by_cases w : 33 ≤ k
      · exact w
      · exact absurd (nI_lt (a := k) (b := 33) (by omega) (by omega)) l
    by_cases w : k ≤ 126
    · have hin : F_X7_in (nI k) 33 126 = some (nI 1) := (o_in k 33 126 (by omega) (by omega) (by omega)).trans (by rw [if_pos ⟨k33, w⟩])
      have le : nI k ≤ (126 : Int32) := nI_le (a := k) (b := 126) w (by omega)
      by_cases f : n = 60
      · apply no (-3)
        · unfold F_X3_push
          rw [lm_br, if_neg l, lm_br, if_pos le, p1, lm_br, if_neg (nI_nn n (by omega)), lm_br, f, if_neg (by decide)]
        · unfold F_X7_append
          rw [hin, lm_bd_some, lm_br, if_pos (by decide), lm_br, q1, f, if_neg (by decide)]
      · refine ⟨nI (n + 1), lm_uB h 8 (lm_sb (h 8) 1 2 (lm_u (lm_u (lm_sh 1 (h 8)) 1 n (nI k)) 0 1 (nI (n + 1)))), lm_u (lm_u μ 5 n (nI k)) 0 8 (nI (n + 1)), ?_, ?_, RR_Fa hR ⟨(Fa.same (μ := μ) _).1, (Fa.same (μ := μ) _).2.1, fun j a b d => ?_, fun d a b e => ?_⟩ ⟨fun i => if i = n then k else C i, n + 1, ⟨?_, by omega, fun i hi => ?_, fun i hi => ?_⟩, ⟨?_, by omega, fun i hi => ?_, fun i hi => ?_⟩⟩⟩
        · unfold F_X6_append F_X3_push
          rw [lm_br, if_neg l, lm_br, if_pos le, p1, lm_br, if_neg (nI_nn n (by omega)), lm_br, if_pos (show nI n < 60 from nI_lt (a := n) (b := 60) (by omega) (by omega)), ev_gi (by omega) (by omega), ev_cl (by omega), lm_lt_eq, lm_lt_eq, lu_c _ (c := 1) (d := 0) _ _ (by omega), p1, nI_1, lu_same, lm_b2_some, lm_lt_eq]
        · unfold F_X7_append
          rw [hin, lm_bd_some, lm_br, if_pos (by decide), lm_br, q1, if_pos (show ¬ nI n = 60 from fun z => f ((nI_eq (b := 60) (by omega) (by omega)).mp z)), ev_gi (by omega) (by omega), ev_cl (by omega), lm_lt_eq, lm_lt_eq, lu_c _ (c := 5) (d := 0) _ _ (by omega), q1, nI_1, lu_same]
        · rw [lu_ne _ _ a, lu_c _ _ _ (by omega)]
        · rw [lu_c _ _ _ a, lu_c _ _ _ b]
        · rw [uB_same, sb1_0, lu_same]
        · rw [uB_same, sb1_1, lu_c _ _ _ (by omega)]
          dsimp only
          by_cases z : i = n
          · rw [if_pos z, z, lu_same]
            exact ⟨rfl, k33, w⟩
          · rw [if_neg z, lu_ne _ _ z]
            exact p3 i (by omega)
        · dsimp only
          rw [if_neg (by omega)]
          exact p4 i (by omega)
        · rw [lu_same]
        · rw [lu_c _ _ _ (by omega)]
          dsimp only
          by_cases z : i = n
          · rw [if_pos z, z, lu_same]
            exact ⟨rfl, k33, w⟩
          · rw [if_neg z, lu_ne _ _ z]
            exact q3 i (by omega)
        · dsimp only
          rw [if_neg (by omega)]
          exact q4 i (by omega)
    · have hin : F_X7_in (nI k) 33 126 = some (nI 0) := (o_in k 33 126 (by omega) (by omega) (by omega)).trans (by rw [if_neg (fun z => w z.2)])
      apply no (-1)
      · unfold F_X3_push
        rw [lm_br, if_neg l, lm_br, if_neg (show ¬ nI k ≤ 126 from nI_ge (a := 126) (b := k) (by omega) (by omega))]
      · unfold F_X7_append
        rw [hin, lm_bd_some, lm_br, if_neg (by decide)]
theorem CP_0 {τ : Hp} (h : τ 0 1 = 0) : CP τ (fun _ => 0) 0 := ⟨h, Nat.zero_le _, fun i hi => absurd hi (by omega), fun _ _ => rfl⟩
theorem RP_0 {μ : Hp} (h : μ 0 8 = 0) : RP μ (fun _ => 0) 0 := ⟨h, Nat.zero_le _, fun i hi => absurd hi (by omega), fun _ _ => rfl⟩
theorem tp_clear {t c : Nat} {h : Nat → Hp} {μ : Hp} (hR : RR t c h μ) : ∃ r h' μ', F_X6_clear h = some (r, h') ∧ F_X7_clear μ = some (r, μ') ∧ RR t c h' μ' := by
  obtain ⟨C, n, hP, hQ⟩ := hR.2.2.1
  refine ⟨nI n, lm_uB h 8 (lm_sb (h 8) 1 2 (lm_u (lm_sh 1 (h 8)) 0 1 0)), lm_u μ 0 8 0, ?_, ?_, RR_Fa hR ⟨(Fa.same (μ := μ) _).1, (Fa.same (μ := μ) _).2.1, fun j a b d => lu_ne _ _ a, fun d a b e => lu_c _ _ _ a⟩ ⟨fun _ => 0, 0, CP_0 ?_, RP_0 (lu_same _ _ _ _)⟩⟩
  · unfold F_X6_clear F_X3_empty
    rw [lm_lt_eq, lm_b2_some, lm_lt_eq, hP.1]
  · unfold F_X7_clear
    rw [lm_lt_eq, hQ.1]
  · rw [uB_same, sb1_0, lu_same]
/-- the pad is read, on both sides -/
theorem pad_fault {t c : Nat} {h : Nat → Hp} {μ : Hp} (hR : RR t c h μ) (w : Bool) : ∃ r τ' μ' C n, F_X3_findFault (lm_sh 1 (h 8)) (nI (wN w)) = some (r, τ') ∧ F_X7_fault μ (nI (wN w)) = some (r, μ') ∧ RR t c (lm_uB h 8 (lm_sb (h 8) 1 2 τ')) μ' ∧ Fa h (lm_uB h 8 (lm_sb (h 8) 1 2 τ')) μ μ' ∧ CP τ' C n ∧ RP μ' C n ∧ τ' 0 2 = nI (wN w) ∧ (r = -4 → ∃ K, τ' 0 4 = nI K ∧ μ' 0 12 = nI K ∧ RD μ' C w K ∧ Fl C w n K) := by
  obtain ⟨C, n, hP, hQ⟩ := hR.2.2.1
  obtain ⟨r, τ', μ', i1, i2, i3, i4, i5, i6, i7⟩ := fault_both w hP hQ
  have hP' : CP τ' C n := hP.of i3 (i5 1 (by omega))
  have hQ' : RP μ' C n := hQ.of (i6.1 8 (by omega) (by omega)) (i6.2 5 (by omega) (by omega))
  have hF : Fa h (lm_uB h 8 (lm_sb (h 8) 1 2 τ')) μ μ' := ⟨(Fa.same (μ := μ) _).1, (Fa.same (μ := μ) _).2.1, fun j _ a b => i6.1 j a b, fun d a _ e => i6.2 d a e⟩
  refine ⟨r, τ', μ', C, n, i1, i2, RR_Fa hR hF ⟨C, n, ?_, hQ'⟩, hF, hP', hQ', i4, i7⟩
  rw [uB_same]
  exact hP'.of (by rw [sb1_0]) (sb1_1 _ _)
theorem tp_fault {t c : Nat} {h : Nat → Hp} {μ : Hp} (hR : RR t c h μ) (x : Int32) : ∃ r h' μ', F_X6_fault h x = some (r, h') ∧ F_X7_fault μ x = some (r, μ') ∧ RR t c h' μ' := by
  rcases raw_in x (m := 1) (by omega) with ⟨a1, -⟩ | ⟨a1, k, hk, e⟩
  · have a1' : F_X7_in x 0 1 = some 0 := a1
    refine ⟨-1, h, μ, ?_, ?_, hR⟩
    · unfold F_X6_fault
      rw [within_in, a1', lm_bd_some, lm_br, if_pos rfl]
    · unfold F_X7_fault
      rw [a1', lm_bd_some, lm_br, if_neg (by decide)]
  · have a1' : F_X7_in x 0 1 = some 1 := a1
    have : k = 0 ∨ k = 1 := by omega
    rcases this with q | q <;> subst q <;> subst e
    · obtain ⟨r, τ', μ', C, n, i1, i2, i3, -⟩ := pad_fault hR false
      have i1' : F_X3_findFault (lm_sh 1 (h 8)) 0 = _ := i1
      refine ⟨r, _, μ', ?_, i2, i3⟩
      unfold F_X6_fault
      rw [within_in, a1', lm_bd_some, lm_br, if_neg (by decide), lm_br, if_pos (by decide), i1', lm_b2_some, lm_lt_eq]
    · obtain ⟨r, τ', μ', C, n, i1, i2, i3, -⟩ := pad_fault hR true
      have i1' : F_X3_findFault (lm_sh 1 (h 8)) 1 = _ := i1
      refine ⟨r, _, μ', ?_, i2, i3⟩
      unfold F_X6_fault
      rw [within_in, a1', lm_bd_some, lm_br, if_neg (by decide), lm_br, if_neg (by decide), i1', lm_b2_some, lm_lt_eq]
theorem q_why {t c : Nat} {h : Nat → Hp} {μ : Hp} (hR : RR t c h μ) (x : Int32) : ∃ r, F_X6_why h x = some r ∧ F_X7_why μ x = some r := by
  have hS := hR.2.2.2
  unfold F_X6_why F_X7_why
  rw [within_in]
  rcases raw_in x (m := 2) (by omega) with ⟨a1, -⟩ | ⟨a1, k, hk, e⟩
  · have a1' : F_X7_in x 0 2 = some 0 := a1
    rw [a1', lm_bd_some, lm_bd_some, lm_br, if_neg (by decide), lm_br, if_neg (by decide)]
    exact ⟨_, rfl, rfl⟩
  · have a1' : F_X7_in x 0 2 = some 1 := a1
    rw [a1', lm_bd_some, lm_bd_some, brT (c := ¬ (1 : Int32) = 0) (by decide), brT (c := ¬ (1 : Int32) = 0) (by decide)]
    rcases hS with ⟨s1, s2⟩ | ⟨s1, s2, s3, s4, s5⟩
    · rw [brF (not_not_intro s2), brT s1]
      exact ⟨_, rfl, rfl⟩
    · rw [brT s2, brF (show ¬ μ 0 9 = 0 by rw [s1]; decide), lm_br, lm_br]
      have : k = 0 ∨ k = 1 ∨ k = 2 := by omega
      rcases this with q | q | q <;> subst q <;> subst e
      · rw [if_pos (by decide), ev_gi (by omega) (by omega), ev_cl (by omega), s3]
        exact ⟨_, rfl, rfl⟩
      · rw [if_neg (by decide), if_pos (by decide), ev_gi (by omega) (by omega), ev_cl (by omega), s4]
        exact ⟨_, rfl, rfl⟩
      · rw [if_neg (by decide), if_neg (by decide), ev_gi (by omega) (by omega), ev_cl (by omega), s5]
        exact ⟨_, rfl, rfl⟩
end PT1
