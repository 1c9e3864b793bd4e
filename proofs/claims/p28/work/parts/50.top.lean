/-! a call, on both sides -/
section TP1
/-- class and reference stand for the same state and the same past; t and c bound the total and the looks -/
def R0 (t c : Nat) (h : Nat → Hp) (μ : Hp) : Prop := ∃ (g : Nat → Nat) (p n : Nat) (H : Nat → Nat → Nat), Cn (h 0) g ∧ Mo μ g ∧ In t c g ∧ Hc h p n H ∧ Hs μ n H ∧ (∀ i, i < n → In t c (H i)) ∧ μ 0 6 = 0
/-- what a call on the state and the past leaves alone -/
def Fx (h h' : Nat → Hp) (μ μ' : Hp) : Prop := (∀ b, b = 1 ∨ b = 2 → h' b = h b) ∧ (∀ c, c ≠ 3 → h' 8 c = h 8 c) ∧ (∀ j, j ≠ 5 → μ' 0 j = μ 0 j) ∧ (∀ c, 3 ≤ c → μ' c = μ c)
theorem In_mono {t c t' c' : Nat} {g : Nat → Nat} (h : In t c g) (ht : t ≤ t') (hc : c ≤ c') (ht' : t' ≤ 1000) (hc' : c' ≤ 1000000) : In t' c' g := by
  obtain ⟨hR, hO, hKn, hs, h8, i16, _, _⟩ := h
  exact ⟨hR, hO, hKn, hs, by omega, by omega, ht', hc'⟩
/-- the shape of every call that changes -/
def cal (h : Nat → Hp) (OP : Hp → Option (Int32 × Hp)) : Option (Int32 × (Nat → Hp)) :=
  lm_bd (F_X1_prepare h) fun h1 =>
  lm_b2 (OP (h1 0)) fun r4 τ2 =>
  lm_lt (lm_uB h1 0 τ2) fun h3 =>
  lm_b2 (F_X1_commit h3 r4) fun r6 h5 =>
  some (r6, h5)
theorem Hc_0 {h : Nat → Hp} {p n : Nat} {H : Nat → Nat → Nat} (hH : Hc h p n H) (τ : Hp) : Hc (lm_uB h 0 τ) p n H := by
  obtain ⟨a1, a2, a3, a4, a5⟩ := hH
  refine ⟨?_, ?_, a3, a4, fun i hi => ?_⟩
  · rw [uB_ne _ _ (by omega)]; exact a1
  · rw [uB_ne _ _ (by omega)]; exact a2
  · rw [uB_ne _ _ (by omega)]; exact a5 i hi
theorem top_ok {t c t' c' : Nat} {h : Nat → Hp} {μ μ4 μ' : Hp} {g g' : Nat → Nat} {p n : Nat} {H : Nat → Nat → Nat} (hC : Cn (h 0) g) (hI : In t c g) (hH : Hc h p n H) (hIH : ∀ i, i < n → In t c (H i)) (h6 : μ 0 6 = 0) {OP : Hp → Option (Int32 × Hp)} {r : Int32} (hop : ∃ τ, OP (h 0) = some (r, τ) ∧ Cn τ g') (hr : ¬ r < 0) (h4 : Hs μ4 (puN n) (puH n H g)) (f4 : ∀ j, j ≠ 5 → μ4 0 j = μ 0 j) (e4 : ∀ c, c ≠ 0 → c ≠ 2 → μ4 c = μ c) (hMo : Mo μ' g') (hFr : Fr μ4 μ') (hIn' : In t' c' g') (ht : t ≤ t') (hc : c ≤ c') : ∃ h', cal h OP = some (r, h') ∧ R0 t' c' h' μ' ∧ Fx h h' μ μ' := by
  have bt := hIn'.2.2.2.2.2.2.1
  have bc := hIn'.2.2.2.2.2.2.2
  obtain ⟨h1, k1, k2, k3, k4⟩ := c_prepare hC hI hH
  obtain ⟨τ, o1, o2⟩ := hop
  have z0 : h1 0 = h 0 := k4 0 (by omega)
  obtain ⟨h5, m1, m2, m3, m4⟩ := c_commit (Hc_0 k2 τ) (g := g) (by rw [uB_ne _ _ (by omega)]; exact k3) hr
  have hp := hH.2.2.1
  refine ⟨h5, ?_, ⟨g', (p + 1) % 5, puN n, puH n H g, ?_, hMo, hIn', m2, ⟨?_, h4.2.1, fun i hi j hj => ?_⟩, fun i hi => ?_, ?_⟩, fun b hb => ?_, fun d hd => ?_, fun j hj => ?_, fun d hd => ?_⟩
  · unfold cal
    rw [k1, lm_bd_some, z0, o1, lm_b2_some, lm_lt_eq, m1, lm_b2_some]
  · rw [m3 0 (by omega), uB_same]; exact o2
  · rw [hFr 0 (by omega)]; exact h4.1
  · rw [hFr 2 (by omega)]; exact h4.2.2 i hi j hj
  · unfold puN at hi
    unfold puH
    by_cases q : n < 4
    · rw [if_pos q] at hi
      rw [if_pos q]
      split
      · exact In_mono hI ht hc bt bc
      · exact In_mono (hIH i (by omega)) ht hc bt bc
    · rw [if_neg q] at hi
      rw [if_neg q]
      have := hH.2.2.2.1
      split
      · exact In_mono hI ht hc bt bc
      · exact In_mono (hIH (i + 1) (by omega)) ht hc bt bc
  · rw [hFr 0 (by omega), f4 6 (by omega)]; exact h6
  · rw [m3 b (by omega), uB_ne _ _ (by omega), k4 b (by omega)]
  · rw [m4 d hd, uB_ne _ _ (by omega), k4 8 (by omega)]
  · rw [hFr 0 (by omega), f4 j hj]
  · rw [hFr d (by omega), e4 d (by omega) (by omega)]
theorem top_no {t c : Nat} {h : Nat → Hp} {μ : Hp} {g : Nat → Nat} {p n : Nat} {H : Nat → Nat → Nat} (hC : Cn (h 0) g) (hM : Mo μ g) (hI : In t c g) (hH : Hc h p n H) (hHs : Hs μ n H) (hIH : ∀ i, i < n → In t c (H i)) (h6 : μ 0 6 = 0) {OP : Hp → Option (Int32 × Hp)} {r : Int32} (hop : OP (h 0) = some (r, h 0)) (hr : r < 0) : ∃ h', cal h OP = some (r, h') ∧ R0 t c h' μ ∧ Fx h h' μ μ := by
  obtain ⟨h1, k1, k2, k3, k4⟩ := c_prepare hC hI hH
  have z0 : h1 0 = h 0 := k4 0 (by omega)
  have hp := hH.2.2.1
  refine ⟨lm_uB h1 0 (h 0), ?_, ⟨g, p, n, H, by rw [uB_same]; exact hC, hM, hI, Hc_0 k2 _, hHs, hIH, h6⟩, fun b hb => ?_, fun d hd => ?_, fun j hj => rfl, fun d hd => rfl⟩
  · unfold cal
    rw [k1, lm_bd_some, z0, hop, lm_b2_some, lm_lt_eq, c_commitNo hr, lm_b2_some]
  · rw [uB_ne _ _ (by omega), k4 b (by omega)]
  · rw [uB_ne _ _ (by omega), k4 8 (by omega)]
theorem nI_nn (n : Nat) (h : n < 2147483648) : ¬ nI n < 0 := nI_nlt (a := n) (b := 0) (Nat.zero_le _) h
end TP1

