/-! a bound that is tried -/
section TB1
variable {g : Nat → Nat} {μ : Hp}
theorem c_tally {σ : Hp} (hC : Cn σ g) {j : Nat} (hj : j < 7) : F_X4_tally σ (nI j) = some (nI (g (9 + j))) := by
  have hy : σ 16 j = nI (g (9 + j)) := by
    rw [hC.2.2.1 j hj]
    split
    · rename_i q
      rw [q]
    · rfl
  unfold F_X4_tally
  rw [lm_br, if_neg (nI_nn j (by omega)), lm_br, if_neg (show ¬ (7 : Int32) ≤ nI j from nI_ge (a := j) (b := 7) hj (by omega)), ev_gi (by omega) (by omega), ev_cl (by omega), hy]
theorem c_try {t c : Nat} {h : Nat → Hp} (hC : Cn (h 0) g) (hI : In t c g) (hc : c + 20 ≤ 1000000) {b : Nat} (hb : b ≤ 60) : ∃ h', F_X6_tryBound h (nI b) = some h' ∧ Cn (h' 1) (stp (seG g 0 b) 20).1 ∧ ∀ k, k ≠ 1 → h' k = h k := by
  obtain ⟨τ, k1, k2⟩ := c_copy (σ := h 1) hC hI
  obtain ⟨τ2, k3, k4⟩ := c_adjust (i := 0) (x := b) k2 hI (by omega) hb
  have hJ := seG_In hI (i := 0) (x := b) (by omega) hb
  have k3' : F_X4_adjust τ 0 (nI b) = some (nI (seN g 0 b), τ2) := k3
  have hw : ∃ r τ3, F_X4_walk τ2 20 = some (r, τ3) ∧ Cn τ3 (stp (seG g 0 b) 20).1 := by
    by_cases q : seG g 0 b 7 < seG g 0 b 6
    · obtain ⟨τ3, w1, w2⟩ := c_walk k4 hJ (n := 20) (by omega) (by omega) hc q
      exact ⟨_, τ3, w1, w2⟩
    · have u1 : lm_sh 1 τ2 0 2 = nI (seG g 0 b 6) := k4.1.2.1.1
      have p1 : τ2 0 6 = nI (seG g 0 b 7) := k4.1.2.2.1.1
      have b6 := hJ.2.1.1
      have b7 := hJ.2.1.2.1
      refine ⟨-2, τ2, ?_, ?_⟩
      · unfold F_X4_walk
        rw [lm_br, if_neg (by decide), lm_br, if_pos (by decide), c_size, lm_bd_some, u1, p1, lm_br, if_neg (nI_nlt (by omega) (by omega))]
      · have e : stD 20 (seG g 0 b) 0 = (seG g 0 b, 0) := by
          rw [stD, if_neg q]
        have := Cs_11 k4 hJ.1 hJ.2.1 (seG g 0 b 11 + 0)
        unfold Cn stp
        rw [e]
        dsimp only
        rw [un_same]
        exact this
  obtain ⟨r, τ3, w1, w2⟩ := hw
  refine ⟨lm_uB (lm_uB (lm_uB h 1 τ) 1 τ2) 1 τ3, ?_, ?_, fun k hk => ?_⟩
  · unfold F_X6_tryBound
    rw [k1, lm_bd_some, lm_lt_eq, uB_same, k3', lm_b2_some, lm_lt_eq, uB_same, w1, lm_b2_some, lm_lt_eq]
  · rw [uB_same]; exact w2
  · rw [uB_ne _ _ hk, uB_ne _ _ hk, uB_ne _ _ hk]
theorem o_try (hM : Mo μ g) {t c : Nat} (hI : In t c g) (hc : c + 20 ≤ 1000000) {b : Nat} (hb : b ≤ 60) : ∃ μ1 μ2 μ3 μ4, F_X7_putsAside μ = some μ1 ∧ F_X7_sets μ1 0 (nI b) = some (nI (seN g 0 b), μ2) ∧ F_X7_steps μ2 20 = some (nI (stp (seG g 0 b) 20).2, μ3) ∧ Mo μ3 (stp (seG g 0 b) 20).1 ∧ F_X7_putsBack μ3 = some μ4 ∧ Mo μ4 g ∧ ∀ d, d ≠ 1 → d ≠ 4 → μ4 d = μ d := by
  obtain ⟨μ1, a1, a2, a3⟩ := o_aside hM
  have hM1 : Mo μ1 g := fun j hj => by rw [a2 1 (by omega)]; exact hM j hj
  obtain ⟨μ2, b1, b2, b3⟩ := o_sets (i := 0) (x := b) hM1 hI (by omega) hb
  have hJ := seG_In hI (i := 0) (x := b) (by omega) hb
  obtain ⟨μ3, c1, c2, c3⟩ := o_steps b2 hJ (n := 20) (by omega) hc
  obtain ⟨μ4, d1, d2, d3⟩ := o_back (μ := μ3) (g := g) (fun j hj => by rw [c3 4 (by omega), b3 4 (by omega)]; exact a3 j hj)
  exact ⟨μ1, μ2, μ3, μ4, a1, b1, c1, c2, d1, d3, fun d h1 h4 => by rw [d2 d h1, c3 d h1, b3 d h1, a2 d h4]⟩
theorem seG_11 (g : Nat → Nat) (b : Nat) : seG g 0 b 11 = g 11 := by
  unfold seG
  rw [if_pos rfl, mr_other (by omega) (by omega), un_ne _ _ (by omega)]
theorem stp_11 (g : Nat → Nat) (n : Nat) : (stp g n).1 11 = g 11 + (stp g n).2 := by
  unfold stp
  dsimp only
  rw [un_same, stD_11]
/-- what a tried bound brings, of each kind -/
def trN (g : Nat → Nat) (b j : Nat) : Int32 := if j = 0 then nI (stp (seG g 0 b) 20).2 else if j = 1 then nI ((stp (seG g 0 b) 20).1 9) - nI (g 9) else if j = 2 then nI ((stp (seG g 0 b) 20).1 10) - nI (g 10) else nI ((stp (seG g 0 b) 20).1 12) - nI (g 12)
theorem o_ifB (hM : Mo μ g) {t c : Nat} (hI : In t c g) (hc : c + 20 ≤ 1000000) {b j : Nat} (hb : b ≤ 60) (hj : j ≤ 3) : ∃ μ', F_X7_ifBound μ (nI b) (nI j) = some (trN g b j, μ') ∧ Mo μ' g ∧ ∀ d, d ≠ 1 → d ≠ 4 → μ' d = μ d := by
  obtain ⟨μ1, μ2, μ3, μ4, a1, a2, a3, a4, a5, a6, a7⟩ := o_try hM hI hc hb
  have h1 : F_X7_in (nI b) 0 60 = some (nI 1) := (o_in b 0 60 (by omega) (by omega) (by omega)).trans (by rw [if_pos (by omega)])
  have h2 : F_X7_in (nI j) 0 3 = some (nI 1) := (o_in j 0 3 (by omega) (by omega) (by omega)).trans (by rw [if_pos (by omega)])
  have hs : seN g 0 b ≤ 10 := by
    unfold seN
    rw [if_pos rfl]
    exact mr_le _ _
  refine ⟨μ4, ?_, a6, a7⟩
  unfold F_X7_ifBound trN
  rw [h1, lm_bd_some, lm_br, if_neg (by decide), h2, lm_bd_some, lm_br, if_pos (by decide), a1, lm_bd_some, a2, lm_b2_some, lm_br, if_pos (show (0 : Int32) ≤ nI (seN g 0 b) from nI_le (a := 0) (Nat.zero_le _) (by omega)), a3, lm_b2_some, a5, lm_bd_some, lm_bd_some, lm_bd_some, lm_bd_some, a4 12 (by omega), a4 10 (by omega), a4 9 (by omega), hM 12 (by omega), hM 10 (by omega), hM 9 (by omega)]
  have : j = 0 ∨ j = 1 ∨ j = 2 ∨ j = 3 := by omega
  rcases this with q | q | q | q <;> subst q
  · rw [lm_br, if_neg (by decide), if_pos rfl]
  · rw [lm_br, if_pos (by decide), lm_br, if_neg (by decide), if_neg (by omega), if_pos rfl]
  · rw [lm_br, if_pos (by decide), lm_br, if_pos (by decide), lm_br, if_neg (by decide), if_neg (by omega), if_neg (by omega), if_pos rfl]
  · rw [lm_br, if_pos (by decide), lm_br, if_pos (by decide), lm_br, if_pos (by decide), if_neg (by omega), if_neg (by omega), if_neg (by omega)]
end TB1
