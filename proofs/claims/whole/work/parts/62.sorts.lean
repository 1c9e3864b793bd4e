/-! sorting and turning: class and reference -/
section SO1
variable {g : Nat → Nat}
theorem nI_m1 (r : Nat) : nI (r + 1) + (-1 : Int32) = nI r := by
  rw [← nI_pred r, Int32.sub_eq_add_neg]
/-- only the rows of the outer table may differ -/
def Eo (g g' : Nat → Nat) : Prop := ∀ k, ¬ (57 ≤ k ∧ k < 97) → g' k = g k
theorem Eo.rf : Eo g g := fun _ _ => rfl
theorem Eo.trans {g' g'' : Nat → Nat} (h : Eo g g') (h2 : Eo g' g'') : Eo g g'' := fun k hk => by rw [h2 k hk, h k hk]
theorem sw_Eo {i j : Nat} (hi : i < 20) (hj : j < 20) : Eo g (sw g i j) := fun _ hk => sw_e g hi hj hk
theorem sw_In {t c : Nat} (hI : In t c g) {i j : Nat} (hi : i < g 6) (hj : j < g 6) : In t c (sw g i j) := by
  obtain ⟨⟨r1, r2, r3, r4⟩, ⟨u1, u2, u3⟩, hK, ⟨s1, s2, s3⟩, b1, b2, b3⟩ := hI
  have e : Eo g (sw g i j) := sw_Eo (by omega) (by omega)
  refine ⟨⟨?_, ?_, ?_, fun k hk => ?_⟩, ⟨?_, ?_, fun k hk => ?_⟩, fun k hk => ?_, ⟨?_, ?_, ?_⟩, ?_, ?_, b3⟩
  · rw [e 5 (by omega)]; exact r1
  · rw [e 3 (by omega)]; exact r2
  · rw [e 4 (by omega)]; exact r3
  · rw [e 5 (by omega)] at hk
    rw [e _ (by omega), e _ (by omega)]
    exact r4 k hk
  · rw [e 6 (by omega)]; exact u1
  · rw [e 7 (by omega), e 6 (by omega)]; exact u2
  · rw [e 6 (by omega)] at hk
    rw [(sw_row g i j k).1, (sw_row g i j k).2]
    by_cases q : k = j
    · rw [if_pos q, if_pos q]; exact u3 i hi
    · rw [if_neg q, if_neg q]
      by_cases q' : k = i
      · rw [if_pos q', if_pos q']; exact u3 j hj
      · rw [if_neg q', if_neg q']; exact u3 k hk
  · rw [e _ (by omega), e _ (by omega), e _ (by omega), e _ (by omega)]
    exact hK k hk
  · rw [e 0 (by omega)]; exact s1
  · rw [e 1 (by omega)]; exact s2
  · rw [e 2 (by omega)]; exact s3
  · rw [e 8 (by omega), e 7 (by omega)]; exact b1
  · rw [e 16 (by omega)]; exact b2
theorem Ot_sym {τ : Hp} {i j : Nat} (hi : i < 20) (hj : j < 20) (h : Ot τ (sw g i j)) : Ot τ (sw g j i) := by
  obtain ⟨h0, hr⟩ := h
  refine ⟨?_, fun k hk => ?_⟩
  · rw [sw_e g hj hi (by omega)]
    rw [sw_e g hi hj (by omega)] at h0
    exact h0
  · rw [sw_e g hj hi (by omega)] at hk
    have := hr k (by rw [sw_e g hi hj (by omega)]; exact hk)
    rw [(sw_row g i j k).1, (sw_row g i j k).2] at this
    rw [(sw_row g j i k).1, (sw_row g j i k).2]
    by_cases q : k = j
    · by_cases q' : k = i
      · rw [if_pos q, if_pos q] at this
        rw [if_pos q', if_pos q', ← q, q']
        rw [← q'] at this ⊢
        exact this
      · rw [if_pos q, if_pos q] at this
        rw [if_neg q', if_neg q', if_pos q, if_pos q]
        exact this
    · by_cases q' : k = i
      · rw [if_neg q, if_neg q, if_pos q', if_pos q'] at this
        rw [if_pos q', if_pos q']
        exact this
      · rw [if_neg q, if_neg q, if_neg q', if_neg q'] at this
        rw [if_neg q', if_neg q', if_neg q, if_neg q]
        exact this
theorem Cm_Eo {σ : Hp} {g' : Nat → Nat} (hm : Cm σ g) (e : Eo g g') : Cm σ g' := by
  obtain ⟨q, l, f, c1, c2, c3, c4⟩ := hm
  refine ⟨q, l, f, c1, by rw [e _ (by omega)]; exact c2, fun i hi => ?_, fun i j hi hj => ?_⟩
  · rw [e _ (by omega)]
    exact c3 i hi
  · rw [e _ (by omega), e _ (by omega), e _ (by omega), e _ (by omega), e _ (by omega), e _ (by omega)]
    exact c4 i j hi hj
theorem Cn_Eo {σ τ : Hp} {g' : Nat → Nat} (hC : Cn σ g) (e : Eo g g') (h5 : g 5 ≤ 20) (hO : Ot τ g') : Cn (lm_sb σ 1 3 τ) g' := by
  obtain ⟨⟨⟨i1, i2⟩, ⟨u1, u2⟩, ⟨p1, p2⟩, s1'⟩, ha, hy, hm⟩ := hC
  have hcell : ∀ j, ¬ (1 ≤ j ∧ j < 4) → lm_sb σ 1 3 τ j = σ j := fun j hj => sb_out _ _ (by omega)
  have hTq : Teq g g' := ⟨e 5 (by omega), e 3 (by omega), e 4 (by omega), fun i hi => ⟨e _ (by omega), e _ (by omega)⟩⟩
  refine ⟨⟨⟨?_, fun i hi => ?_⟩, ⟨?_, fun i hi => ⟨?_, ?_⟩⟩, ⟨?_, ?_⟩, fun j hj => ?_⟩, fun j hj => ?_, fun j hj => ?_, ?_⟩
  · rw [hcell 4 (by omega), e 5 (by omega)]; exact i1
  · rw [e 5 (by omega)] at hi
    rw [hcell 5 (by omega), hcell 6 (by omega), e _ (by omega), e _ (by omega)]
    exact i2 i hi
  · show lm_sb σ 1 3 _ (1 + 0) 2 = _
    rw [sb_in _ _ (by omega)]
    exact hO.1
  · show lm_sb σ 1 3 _ (1 + 1) i = _
    rw [sb_in _ _ (by omega)]
    exact (hO.2 i hi).1
  · show lm_sb σ 1 3 _ (1 + 2) i = _
    rw [sb_in _ _ (by omega)]
    exact (hO.2 i hi).2
  · rw [hcell 0 (by omega), e 7 (by omega)]; exact p1
  · rw [hcell 0 (by omega), e 8 (by omega)]; exact p2
  · rw [hcell 15 (by omega), e j (by omega)]; exact s1' j hj
  · rw [hTq.cnt, hTq.sm, hTq.fs, hcell 8 (by omega), hcell 9 (by omega), hcell 10 (by omega)]
    exact ha j hj
  · rw [hcell 16 (by omega), e 11 (by omega), e (9 + j) (by omega)]
    exact hy j hj
  · exact Cm_cells (Cm_Eo hm e) (fun c hc => hcell c (by omega))
theorem sort_in {t c : Nat} (y z : Int32) : ∀ d m m' (g : Nat → Nat) (τ μ : Hp), In t c g → Ot τ g → Mo μ g → g 7 + d < g 6 → d < m → d < m' → ∃ τ' μ' g', F_X5_sortFrom_L14 m τ (nI (g 7)) y (nI (g 7 + d)) = some τ' ∧ F_X7_sorts_L23 m' μ z (nI (g 7 + d)) = some μ' ∧ Ot τ' g' ∧ Mo μ' g' ∧ In t c g' ∧ Eo g g' ∧ Fr μ μ' := by
  intro d
  induction d with
  | zero =>
    intro m m' g τ μ hI hO hM hd hm hm'
    have h6 := hI.2.1.1
    cases m with
    | zero => omega
    | succ m =>
      cases m' with
      | zero => omega
      | succ m' =>
        refine ⟨τ, μ, g, ?_, ?_, hO, hM, hI, Eo.rf, Fr.rf⟩
        · rw [F_X5_sortFrom_L14, lm_br, if_pos (nI_le (a := g 7 + 0) (b := g 7) (by omega) (by omega))]
        · rw [F_X7_sorts_L23, lm_br, hM 7 (by omega), if_pos (nI_le (a := g 7 + 0) (b := g 7) (by omega) (by omega))]
  | succ d ih =>
    intro m m' g τ μ hI hO hM hd hm hm'
    have h6 := hI.2.1.1
    cases m with
    | zero => omega
    | succ m =>
      cases m' with
      | zero => omega
      | succ m' =>
        obtain ⟨r, hr⟩ : ∃ r, r = g 7 + d := ⟨_, rfl⟩
        have er : g 7 + (d + 1) = r + 1 := by omega
        have k1 : τ 1 r = nI (g (57 + 2 * r)) := (hO.2 r (by omega)).1
        have k2 : τ 1 (r + 1) = nI (g (57 + 2 * (r + 1))) := (hO.2 (r + 1) (by omega)).1
        have hc : F_X5_sortFrom_L14 (m + 1) τ (nI (g 7)) y (nI (r + 1)) = lm_br (nI (g (57 + 2 * r)) ≤ nI (g (57 + 2 * (r + 1)))) (some τ) (lm_bd (F_X5_swap τ (nI r) (nI (r + 1))) fun σ6 => F_X5_sortFrom_L14 m σ6 (nI (g 7)) y (nI r)) := by
          rw [F_X5_sortFrom_L14, lm_br, if_neg (nI_ge (a := g 7) (b := r + 1) (by omega) (by omega)), nI_pred, nI_m1, c_key (by omega), c_key (by omega), lm_bd_some, lm_bd_some, k1, k2]
        have ho : F_X7_sorts_L23 (m' + 1) μ z (nI (r + 1)) = lm_br (nI (g (57 + 2 * r)) ≤ nI (g (57 + 2 * (r + 1)))) (some μ) (lm_bd (F_X7_swaps μ (nI (r + 1)) (nI r)) fun σ6 => F_X7_sorts_L23 m' σ6 z (nI r)) := by
          rw [F_X7_sorts_L23, lm_br, hM 7 (by omega), if_neg (nI_ge (a := g 7) (b := r + 1) (by omega) (by omega)), nI_pred, nI_m1, ev_k57, ev_k2, ev_mul, ev_add, pk_sub (by omega), show 57 + 2 * (r + 1) - 2 = 57 + 2 * r by omega, ev_gi (by omega) (by omega), ev_gi (by omega) (by omega), ev_cl (by omega), ev_cl (by omega), hM _ (by omega), hM _ (by omega)]
        rw [er, hc, ho]
        by_cases q : nI (g (57 + 2 * r)) ≤ nI (g (57 + 2 * (r + 1)))
        · refine ⟨τ, μ, g, ?_, ?_, hO, hM, hI, Eo.rf, Fr.rf⟩
          · rw [lm_br, if_pos q]
          · rw [lm_br, if_pos q]
        · obtain ⟨τ1, a1, a2⟩ := Ot_swap hO (i := r) (j := r + 1) (by omega) (by omega) h6
          obtain ⟨μ1, b1, b2, b3⟩ := o_swap hM (i := r + 1) (j := r) (by omega) (by omega)
          have e7 : sw g (r + 1) r 7 = g 7 := sw_e g (by omega) (by omega) (by omega)
          have e6 : sw g (r + 1) r 6 = g 6 := sw_e g (by omega) (by omega) (by omega)
          obtain ⟨τ2, μ2, g2, c1, c2, c3, c4, c5, c6, c7⟩ := ih m m' (sw g (r + 1) r) τ1 μ1 (sw_In hI (by omega) (by omega)) (Ot_sym (by omega) (by omega) a2) b2 (by omega) (by omega) (by omega)
          rw [e7, ← hr] at c1 c2
          refine ⟨τ2, μ2, g2, ?_, ?_, c3, c4, c5, (sw_Eo (by omega) (by omega)).trans c6, b3.trans c7⟩
          · rw [lm_br, if_neg q, a1, lm_bd_some, c1]
          · rw [lm_br, if_neg q, b1, lm_bd_some, c2]
theorem sort_out {t c : Nat} : ∀ d k m m' (g : Nat → Nat) (τ μ : Hp), In t c g → Ot τ g → Mo μ g → g 6 ≤ k + d → g 7 < k → d < m → d < m' → k < 1000 → ∃ τ' μ' g', F_X5_sortFrom_L4 m τ (nI (g 7)) (nI k) = some τ' ∧ F_X7_sorts_L10 m' μ (nI k) = some μ' ∧ Ot τ' g' ∧ Mo μ' g' ∧ In t c g' ∧ Eo g g' ∧ Fr μ μ' := by
  intro d
  induction d with
  | zero =>
    intro k m m' g τ μ hI hO hM hd hk hm hm' hb
    have h6 := hI.2.1.1
    cases m with
    | zero => omega
    | succ m =>
      cases m' with
      | zero => omega
      | succ m' =>
        refine ⟨τ, μ, g, ?_, ?_, hO, hM, hI, Eo.rf, Fr.rf⟩
        · rw [F_X5_sortFrom_L4, lm_br, hO.1, if_pos (nI_le (by omega) (by omega))]
        · rw [F_X7_sorts_L10, lm_br, hM 6 (by omega), if_pos (nI_le (by omega) (by omega))]
  | succ d ih =>
    intro k m m' g τ μ hI hO hM hd hk hm hm' hb
    have h6 := hI.2.1.1
    cases m with
    | zero => omega
    | succ m =>
      cases m' with
      | zero => omega
      | succ m' =>
        by_cases q : g 6 ≤ k
        · refine ⟨τ, μ, g, ?_, ?_, hO, hM, hI, Eo.rf, Fr.rf⟩
          · rw [F_X5_sortFrom_L4, lm_br, hO.1, if_pos (nI_le q (by omega))]
          · rw [F_X7_sorts_L10, lm_br, hM 6 (by omega), if_pos (nI_le q (by omega))]
        · obtain ⟨τ1, μ1, g1, a1, a2, a3, a4, a5, a6, a7⟩ := sort_in (nI k) (nI k) (k - g 7) 1000 1000 g τ μ hI hO hM (by omega) (by omega) (by omega)
          rw [show g 7 + (k - g 7) = k by omega] at a1 a2
          have e7 : g1 7 = g 7 := a6 7 (by omega)
          have e6 : g1 6 = g 6 := a6 6 (by omega)
          obtain ⟨τ2, μ2, g2, c1, c2, c3, c4, c5, c6, c7⟩ := ih (k + 1) m m' g1 τ1 μ1 a5 a3 a4 (by omega) (by omega) (by omega) (by omega) (by omega)
          rw [e7] at c1
          refine ⟨τ2, μ2, g2, ?_, ?_, c3, c4, c5, a6.trans c6, a7.trans c7⟩
          · rw [F_X5_sortFrom_L4, lm_br, hO.1, if_neg (nI_ge (by omega) (by omega)), a1, lm_bd_some, nI_1, c1]
          · rw [F_X7_sorts_L10, lm_br, hM 6 (by omega), if_neg (nI_ge (by omega) (by omega)), a2, lm_bd_some, nI_1, c2]
theorem turn_L {t c : Nat} : ∀ d lo hi m m' (g : Nat → Nat) (τ μ : Hp), In t c g → Ot τ g → Mo μ g → hi ≤ lo + d → hi < g 6 → d < m → d < m' → lo < 1000 → ∃ τ' μ' g', F_X5_reverseFrom_L9 m τ (nI hi) (nI lo) = some τ' ∧ F_X7_turns_L18 m' μ (nI lo) (nI hi) = some μ' ∧ Ot τ' g' ∧ Mo μ' g' ∧ In t c g' ∧ Eo g g' ∧ Fr μ μ' := by
  intro d
  induction d with
  | zero =>
    intro lo hi m m' g τ μ hI hO hM hd hk hm hm' hb
    have h6 := hI.2.1.1
    cases m with
    | zero => omega
    | succ m =>
      cases m' with
      | zero => omega
      | succ m' =>
        refine ⟨τ, μ, g, ?_, ?_, hO, hM, hI, Eo.rf, Fr.rf⟩
        · rw [F_X5_reverseFrom_L9, lm_br, if_pos (nI_le (by omega) (by omega))]
        · rw [F_X7_turns_L18, lm_br, if_pos (nI_le (by omega) (by omega))]
  | succ d ih =>
    intro lo hi m m' g τ μ hI hO hM hd hk hm hm' hb
    have h6 := hI.2.1.1
    cases m with
    | zero => omega
    | succ m =>
      cases m' with
      | zero => omega
      | succ m' =>
        by_cases q : hi ≤ lo
        · refine ⟨τ, μ, g, ?_, ?_, hO, hM, hI, Eo.rf, Fr.rf⟩
          · rw [F_X5_reverseFrom_L9, lm_br, if_pos (nI_le q (by omega))]
          · rw [F_X7_turns_L18, lm_br, if_pos (nI_le q (by omega))]
        · obtain ⟨x, hx⟩ : ∃ x, hi = x + 1 := ⟨hi - 1, by omega⟩
          subst hx
          obtain ⟨τ1, a1, a2⟩ := Ot_swap hO (i := lo) (j := x + 1) (by omega) (by omega) h6
          obtain ⟨μ1, b1, b2, b3⟩ := o_swap hM (i := lo) (j := x + 1) (by omega) (by omega)
          have e6 : sw g lo (x + 1) 6 = g 6 := sw_e g (by omega) (by omega) (by omega)
          obtain ⟨τ2, μ2, g2, c1, c2, c3, c4, c5, c6, c7⟩ := ih (lo + 1) x m m' (sw g lo (x + 1)) τ1 μ1 (sw_In hI (by omega) (by omega)) a2 b2 (by omega) (by omega) (by omega) (by omega) (by omega)
          refine ⟨τ2, μ2, g2, ?_, ?_, c3, c4, c5, (sw_Eo (by omega) (by omega)).trans c6, b3.trans c7⟩
          · rw [F_X5_reverseFrom_L9, lm_br, if_neg (nI_ge (by omega) (by omega)), a1, lm_bd_some, nI_m1, nI_1, c1]
          · rw [F_X7_turns_L18, lm_br, if_neg (nI_ge (by omega) (by omega)), b1, lm_bd_some, nI_m1, nI_1, c2]
theorem sort_both {t c : Nat} {τ μ : Hp} (hI : In t c g) (hO : Ot τ g) (hM : Mo μ g) : ∃ τ' μ' g', F_X5_sortFrom τ (nI (g 7)) = some τ' ∧ F_X7_sorts μ = some μ' ∧ Ot τ' g' ∧ Mo μ' g' ∧ In t c g' ∧ Eo g g' ∧ Fr μ μ' := by
  have h6 := hI.2.1.1
  have h7 := hI.2.1.2.1
  unfold F_X5_sortFrom F_X7_sorts
  rw [hM 7 (by omega), nI_1]
  exact sort_out 20 (g 7 + 1) 1000 1000 g τ μ hI hO hM (by omega) (by omega) (by omega) (by omega) (by omega)
theorem turn_both {t c : Nat} {τ μ : Hp} (hI : In t c g) (hO : Ot τ g) (hM : Mo μ g) : ∃ τ' μ' g', F_X5_reverseFrom τ (nI (g 7)) = some τ' ∧ F_X7_turns μ = some μ' ∧ Ot τ' g' ∧ Mo μ' g' ∧ In t c g' ∧ Eo g g' ∧ Fr μ μ' := by
  have h6 := hI.2.1.1
  have h7 := hI.2.1.2.1
  unfold F_X5_reverseFrom F_X7_turns
  rw [hM 7 (by omega), hM 6 (by omega), hO.1]
  by_cases q : g 6 = 0
  · have q7 : g 7 = 0 := by omega
    rw [q, q7]
    refine ⟨τ, μ, g, ?_, ?_, hO, hM, hI, Eo.rf, Fr.rf⟩
    · rw [F_X5_reverseFrom_L9, lm_br, if_pos (by decide)]
    · rw [F_X7_turns_L18, lm_br, if_pos (by decide)]
  · obtain ⟨x, hx⟩ : ∃ x, g 6 = x + 1 := ⟨g 6 - 1, by omega⟩
    rw [hx, nI_pred]
    exact turn_L 20 (g 7) x 1000 1000 g τ μ hI hO hM (by omega) (by omega) (by omega) (by omega) (by omega)
end SO1
