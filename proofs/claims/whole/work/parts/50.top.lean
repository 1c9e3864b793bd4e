/-! a call, on both sides -/
section TP1
/-- class and reference stand for the same state and the same past; t and c bound the total and the looks -/
def R0 (t c : Nat) (h : Nat → Hp) (μ : Hp) : Prop := ∃ (g : Nat → Nat) (p n : Nat) (H : Nat → Nat → Nat), Cn (h 0) g ∧ Mo μ g ∧ In t c g ∧ Hc h p n H ∧ Hs μ n H ∧ (∀ i, i < n → In t c (H i)) ∧ μ 0 6 = 0
/-- what a call on the state and the past leaves alone -/
def Fx (h h' : Nat → Hp) (μ μ' : Hp) : Prop := (∀ b, b = 1 ∨ b = 2 → h' b = h b) ∧ (∀ c, c ≠ 3 → h' 8 c = h 8 c) ∧ (∀ j, j ≠ 5 → μ' 0 j = μ 0 j) ∧ (∀ c, 3 ≤ c → μ' c = μ c)
theorem In_mono {t c t' c' : Nat} {g : Nat → Nat} (h : In t c g) (ht : t ≤ t') (hc : c ≤ c') (ht' : t' ≤ 1000) (hc' : c' ≤ 1000000) : In t' c' g := by
  obtain ⟨hR, hO, hKn, hs, h8, i16, _, _⟩ := h
  exact ⟨hR, hO, hKn, hs, by omega, by omega, ht', hc'⟩
/-- the shape of every call that changes -/
def cal (h : Nat → Hp) (OP : Hp → Option (Int32 × Hp)) : Option (Int32 × (Nat → Hp)) :=
  lm_bd (F_X1_prepare h) fun h1 =>
  lm_b2 (OP (h1 0)) fun r4 τ2 =>
  lm_lt (lm_uB h1 0 τ2) fun h3 =>
  lm_b2 (F_X1_commit h3 r4) fun r6 h5 =>
  some (r6, h5)
theorem Hc_0 {h : Nat → Hp} {p n : Nat} {H : Nat → Nat → Nat} (hH : Hc h p n H) (τ : Hp) : Hc (lm_uB h 0 τ) p n H := by
  obtain ⟨a1, a2, a3, a4, a5⟩ := hH
  refine ⟨?_, ?_, a3, a4, fun i hi => ?_⟩
  · rw [uB_ne _ _ (by omega)]; exact a1
  · rw [uB_ne _ _ (by omega)]; exact a2
  · rw [uB_ne _ _ (by omega)]; exact a5 i hi
theorem top_ok {t c t' c' : Nat} {h : Nat → Hp} {μ μ4 μ' : Hp} {g g' : Nat → Nat} {p n : Nat} {H : Nat → Nat → Nat} (hC : Cn (h 0) g) (hI : In t c g) (hH : Hc h p n H) (hIH : ∀ i, i < n → In t c (H i)) (h6 : μ 0 6 = 0) {OP : Hp → Option (Int32 × Hp)} {r : Int32} (hop : ∃ τ, OP (h 0) = some (r, τ) ∧ Cn τ g') (hr : ¬ r < 0) (h4 : Hs μ4 (puN n) (puH n H g)) (f4 : ∀ j, j ≠ 5 → μ4 0 j = μ 0 j) (e4 : ∀ c, c ≠ 0 → c ≠ 2 → μ4 c = μ c) (hMo : Mo μ' g') (hFr : Fr μ4 μ') (hIn' : In t' c' g') (ht : t ≤ t') (hc : c ≤ c') : ∃ h', cal h OP = some (r, h') ∧ R0 t' c' h' μ' ∧ Fx h h' μ μ' := by
  have bt := hIn'.2.2.2.2.2.2.1
  have bc := hIn'.2.2.2.2.2.2.2
  obtain ⟨h1, k1, k2, k3, k4⟩ := c_prepare hC hI hH
  obtain ⟨τ, o1, o2⟩ := hop
  have z0 : h1 0 = h 0 := k4 0 (by omega)
  obtain ⟨h5, m1, m2, m3, m4⟩ := c_commit (Hc_0 k2 τ) (g := g) (by rw [uB_ne _ _ (by omega)]; exact k3) hr
  have hp := hH.2.2.1
  refine ⟨h5, ?_, ⟨g', (p + 1) % 5, puN n, puH n H g, ?_, hMo, hIn', m2, ⟨?_, h4.2.1, fun i hi j hj => ?_⟩, fun i hi => ?_, ?_⟩, fun b hb => ?_, fun d hd => ?_, fun j hj => ?_, fun d hd => ?_⟩
  · unfold cal
    rw [k1, lm_bd_some, z0, o1, lm_b2_some, lm_lt_eq, m1, lm_b2_some]
  · rw [m3 0 (by omega), uB_same]; exact o2
  · rw [hFr 0 (by omega)]; exact h4.1
  · rw [hFr 2 (by omega)]; exact h4.2.2 i hi j hj
  · unfold puN at hi
    unfold puH
    by_cases q : n < 4
    · rw [if_pos q] at hi
      rw [if_pos q]
      split
      · exact In_mono hI ht hc bt bc
      · exact In_mono (hIH i (by omega)) ht hc bt bc
    · rw [if_neg q] at hi
      rw [if_neg q]
      have := hH.2.2.2.1
      split
      · exact In_mono hI ht hc bt bc
      · exact In_mono (hIH (i + 1) (by omega)) ht hc bt bc
  · rw [hFr 0 (by omega), f4 6 (by omega)]; exact h6
  · rw [m3 b (by omega), uB_ne _ _ (by omega), k4 b (by omega)]
  · rw [m4 d hd, uB_ne _ _ (by omega), k4 8 (by omega)]
  · rw [hFr 0 (by omega), f4 j hj]
  · rw [hFr d (by omega), e4 d (by omega) (by omega)]
theorem top_no {t c : Nat} {h : Nat → Hp} {μ : Hp} {g : Nat → Nat} {p n : Nat} {H : Nat → Nat → Nat} (hC : Cn (h 0) g) (hM : Mo μ g) (hI : In t c g) (hH : Hc h p n H) (hHs : Hs μ n H) (hIH : ∀ i, i < n → In t c (H i)) (h6 : μ 0 6 = 0) {OP : Hp → Option (Int32 × Hp)} {r : Int32} (hop : OP (h 0) = some (r, h 0)) (hr : r < 0) : ∃ h', cal h OP = some (r, h') ∧ R0 t c h' μ ∧ Fx h h' μ μ := by
  obtain ⟨h1, k1, k2, k3, k4⟩ := c_prepare hC hI hH
  have z0 : h1 0 = h 0 := k4 0 (by omega)
  have hp := hH.2.2.1
  refine ⟨lm_uB h1 0 (h 0), ?_, ⟨g, p, n, H, by rw [uB_same]; exact hC, hM, hI, Hc_0 k2 _, hHs, hIH, h6⟩, fun b hb => ?_, fun d hd => ?_, fun j hj => rfl, fun d hd => rfl⟩
  · unfold cal
    rw [k1, lm_bd_some, z0, hop, lm_b2_some, lm_lt_eq, c_commitNo hr, lm_b2_some]
  · rw [uB_ne _ _ (by omega), k4 b (by omega)]
  · rw [uB_ne _ _ (by omega), k4 8 (by omega)]
theorem nI_nn (n : Nat) (h : n < 2147483648) : ¬ nI n < 0 := nI_nlt (a := n) (b := 0) (Nat.zero_le _) h
theorem t_add {t c : Nat} {h : Nat → Hp} {μ : Hp} (hR : R0 t c h μ) (x1 x2 x3 : Int32) : ∃ r h' μ', F_X6_add h x1 x2 x3 = some (r, h') ∧ F_X7_add μ x1 x2 x3 = some (r, μ') ∧ R0 t c h' μ' ∧ Fx h h' μ μ' := by
  obtain ⟨g, p, n, H, hC, hM, hI, hH, hHs, hIH, h6⟩ := hR
  have hcal : F_X6_add h x1 x2 x3 = cal h (fun σ => F_X4_insertRow σ x1 x2 x3) := rfl
  rw [hcal]
  rcases raw_row x2 x3 with ⟨r1, r2⟩ | ⟨⟨r1, r2⟩, k, v, hk, hv, e2, e3⟩
  · obtain ⟨h', z1, z2, z3⟩ := top_no hC hM hI hH hHs hIH h6 (OP := fun σ => F_X4_insertRow σ x1 x2 x3) (r := -1) (by
      unfold F_X4_insertRow
      rw [r2, lm_bd_some, lm_br, if_neg (by decide)]) (by decide)
    refine ⟨-1, h', μ, z1, ?_, z2, z3⟩
    unfold F_X7_add
    rw [r1, lm_bd_some, lm_br, if_neg (by decide)]
  · subst e2
    subst e3
    obtain ⟨μ4, c1, c2, c3, c4, c5⟩ := o_changes hM hHs h6
    by_cases q1 : x1 = 0
    · subst q1
      by_cases q6 : g 6 = 20
      · obtain ⟨h', z1, z2, z3⟩ := top_no hC hM hI hH hHs hIH h6 (OP := fun σ => F_X4_insertRow σ 0 (nI k) (nI v)) (r := -3) (c_insFull0 hC q6 hk hv) (by decide)
        refine ⟨-3, h', μ, z1, ?_, z2, z3⟩
        unfold F_X7_add
        rw [r1, lm_bd_some, lm_br, if_pos (by decide), lm_br, if_pos rfl, lm_br, hM 6 (by omega), q6, if_neg (by decide)]
      · have l6 : g 6 < 20 := by have := hI.2.1.1; omega
        obtain ⟨μ', a1, a2, a3⟩ := o_adds0 c2 l6 k v
        obtain ⟨h', z1, z2, z3⟩ := top_ok hC hI hH hIH h6 (OP := fun σ => F_X4_insertRow σ 0 (nI k) (nI v)) (c_ins0 hC hI hk hv l6) (nI_nn _ (by omega)) c3 c4 c5 a2 a3 (adO_In hI hk hv l6) (Nat.le_refl _) (Nat.le_refl _)
        refine ⟨_, h', μ', z1, ?_, z2, z3⟩
        unfold F_X7_add
        rw [r1, lm_bd_some, lm_br, if_pos (by decide), lm_br, if_pos rfl, lm_br, hM 6 (by omega), if_pos (show ¬ nI (g 6) = (20 : Int32) from fun z => q6 ((nI_eq (b := 20) (by omega) (by omega)).mp z)), c1, lm_bd_some, a1, lm_b2_some]
    · by_cases q5 : g 5 = 20
      · obtain ⟨h', z1, z2, z3⟩ := top_no hC hM hI hH hHs hIH h6 (OP := fun σ => F_X4_insertRow σ x1 (nI k) (nI v)) (r := -3) (c_insFull1 hC q5 q1 hk hv) (by decide)
        refine ⟨-3, h', μ, z1, ?_, z2, z3⟩
        unfold F_X7_add
        rw [r1, lm_bd_some, lm_br, if_pos (by decide), lm_br, if_neg q1, lm_br, hM 5 (by omega), q5, if_neg (by decide)]
      · have l5 : g 5 < 20 := by have := hI.1.1; omega
        obtain ⟨μ', a1, a2, a3⟩ := o_adds1 c2 hI l5 q1 hk hv
        obtain ⟨h', z1, z2, z3⟩ := top_ok hC hI hH hIH h6 (OP := fun σ => F_X4_insertRow σ x1 (nI k) (nI v)) (c_ins1 hC hI q1 hk hv l5) (nI_nn _ (by omega)) c3 c4 c5 a2 a3 (kp_In (adI_In hI hk hv l5) k k) (Nat.le_refl _) (Nat.le_refl _)
        refine ⟨_, h', μ', z1, ?_, z2, z3⟩
        unfold F_X7_add
        rw [r1, lm_bd_some, lm_br, if_pos (by decide), lm_br, if_neg q1, lm_br, hM 5 (by omega), if_pos (show ¬ nI (g 5) = (20 : Int32) from fun z => q5 ((nI_eq (b := 20) (by omega) (by omega)).mp z)), c1, lm_bd_some, a1, lm_b2_some]
end TP1
