/-! bounds that are tried, on both sides -/
section TB2
variable {g : Nat → Nat}
/-- only the trial and the spare place are touched -/
def Fq (h h' : Nat → Hp) (μ μ' : Hp) : Prop := (∀ k, k ≠ 1 → h' k = h k) ∧ ∀ d, d ≠ 1 → d ≠ 4 → μ' d = μ d
theorem R0_Fq {t c : Nat} {h h' : Nat → Hp} {μ μ' : Hp} {p n : Nat} {H : Nat → Nat → Nat} (hC : Cn (h 0) g) (hI : In t c g) (hH : Hc h p n H) (hHs : Hs μ n H) (hIH : ∀ i, i < n → In t c (H i)) (h6 : μ 0 6 = 0) (hM : Mo μ' g) (hF : Fq h h' μ μ') : R0 t c h' μ' := by
  obtain ⟨f1, f2⟩ := hF
  obtain ⟨a1, a2, a3, a4, a5⟩ := hH
  obtain ⟨b1, b2, b3⟩ := hHs
  refine ⟨g, p, n, H, by rw [f1 0 (by omega)]; exact hC, hM, hI, ⟨?_, ?_, a3, a4, fun i hi => ?_⟩, ⟨?_, b2, fun i hi j hj => ?_⟩, hIH, ?_⟩
  · rw [f1 8 (by omega)]; exact a1
  · rw [f1 8 (by omega)]; exact a2
  · rw [f1 _ (by omega)]; exact a5 i hi
  · rw [f2 0 (by omega) (by omega)]; exact b1
  · rw [f2 2 (by omega) (by omega)]; exact b3 i hi j hj
  · rw [f2 0 (by omega) (by omega)]; exact h6
theorem c_brought {h : Nat → Hp} {gt : Nat → Nat} (hC : Cn (h 0) g) (hT : Cn (h 1) gt) {j : Nat} (hj : j < 7) : F_X6_brought h (nI j) = some (nI (gt (9 + j)) - nI (g (9 + j))) := by
  unfold F_X6_brought
  rw [c_tally hT hj, c_tally hC hj, lm_bd_some, lm_bd_some]
theorem c_brought2 {h : Nat → Hp} {b : Nat} (hC : Cn (h 0) g) (hT : Cn (h 1) (stp (seG g 0 b) 20).1) : F_X6_brought h 2 = some (nI (stp (seG g 0 b) 20).2) := by
  have := c_brought hC hT (j := 2) (by omega)
  rw [show 9 + 2 = 11 from rfl, stp_11, seG_11, pk_sub (Nat.le_add_right _ _), Nat.add_sub_cancel_left] at this
  exact this
theorem q_ifBound {t c : Nat} (hc : c + 20 ≤ 1000000) {h : Nat → Hp} {μ : Hp} (hR : R0 t c h μ) (x1 x2 : Int32) : ∃ r h' μ', F_X6_ifBound h x1 x2 = some (r, h') ∧ F_X7_ifBound μ x1 x2 = some (r, μ') ∧ R0 t c h' μ' ∧ Fq h h' μ μ' := by
  obtain ⟨g, p, n, H, hC, hM, hI, hH, hHs, hIH, h6⟩ := id hR
  rcases raw_in x1 (m := 60) (by omega) with ⟨a1, -⟩ | ⟨a1, b, hb, e⟩
  · have a1' : F_X7_in x1 0 60 = some 0 := a1
    refine ⟨-1, h, μ, ?_, ?_, hR, fun _ _ => rfl, fun _ _ _ => rfl⟩
    · unfold F_X6_ifBound
      rw [within_in, a1', lm_bd_some, lm_br, if_pos rfl]
    · unfold F_X7_ifBound
      rw [a1', lm_bd_some, lm_br, if_pos rfl]
  · have a1' : F_X7_in x1 0 60 = some 1 := a1
    rcases raw_in x2 (m := 3) (by omega) with ⟨b1, -⟩ | ⟨b1, j, hj, e2⟩
    · have b1' : F_X7_in x2 0 3 = some 0 := b1
      refine ⟨-1, h, μ, ?_, ?_, hR, fun _ _ => rfl, fun _ _ _ => rfl⟩
      · unfold F_X6_ifBound
        rw [within_in, a1', lm_bd_some, lm_br, if_neg (by decide), within_in, b1', lm_bd_some, lm_br, if_neg (by decide)]
      · unfold F_X7_ifBound
        rw [a1', lm_bd_some, lm_br, if_neg (by decide), b1', lm_bd_some, lm_br, if_neg (by decide)]
    · have b1' : F_X7_in x2 0 3 = some 1 := b1
      subst e
      subst e2
      obtain ⟨μ', d1, d2, d3⟩ := o_ifB hM hI hc hb hj
      obtain ⟨h', k1, k2, k3⟩ := c_try hC hI hc hb
      have k0 : Cn (h' 0) g := by rw [k3 0 (by omega)]; exact hC
      have z2 := c_brought2 k0 k2
      have z0 : F_X6_brought h' 0 = _ := c_brought k0 k2 (j := 0) (by omega)
      have z1 : F_X6_brought h' 1 = _ := c_brought k0 k2 (j := 1) (by omega)
      have z3 : F_X6_brought h' 3 = _ := c_brought k0 k2 (j := 3) (by omega)
      refine ⟨trN g b j, h', μ', ?_, d1, R0_Fq hC hI hH hHs hIH h6 d2 ⟨k3, d3⟩, k3, d3⟩
      unfold F_X6_ifBound trN
      rw [within_in, a1', lm_bd_some, lm_br, if_neg (by decide), within_in, b1', lm_bd_some, lm_br, if_pos (by decide), k1, lm_bd_some, z0, z1, z2, z3, lm_bd_some, lm_bd_some, lm_bd_some, lm_bd_some]
      have : j = 0 ∨ j = 1 ∨ j = 2 ∨ j = 3 := by omega
      rcases this with q | q | q | q <;> subst q
      · rw [lm_br, if_pos (by decide), if_pos rfl]
      · rw [lm_br, if_neg (by decide), lm_br, if_pos (by decide), if_neg (by omega), if_pos rfl]
      · rw [lm_br, if_neg (by decide), lm_br, if_neg (by decide), lm_br, if_pos (by decide), if_neg (by omega), if_neg (by omega), if_pos rfl]
      · rw [lm_br, if_neg (by decide), lm_br, if_neg (by decide), lm_br, if_neg (by decide), if_neg (by omega), if_neg (by omega), if_neg (by omega)]
theorem q_least_L {t c : Nat} (hI : In t c g) (hc : c + 20 ≤ 1000000) : ∀ d n x (a l : Int32) (h : Nat → Hp) (μ : Hp), Cn (h 0) g → Mo μ g → x + d = 61 → d < n → ∃ r h' μ', F_X6_leastBound_L15 n h a l (nI x) = some (r, h') ∧ F_X7_leastBound_L11 n μ a l (nI x) = some (r, μ') ∧ Mo μ' g ∧ Fq h h' μ μ' := by
  intro d
  induction d with
  | zero =>
    intro n x a l h μ hC hM hx hn
    cases n with
    | zero => omega
    | succ n =>
      have z : (60 : Int32) < nI x := nI_lt (a := 60) (b := x) (by omega) (by omega)
      rw [F_X6_leastBound_L15, F_X7_leastBound_L11, lm_br, if_pos z, lm_br, if_pos z]
      exact ⟨a, h, μ, rfl, rfl, hM, fun _ _ => rfl, fun _ _ _ => rfl⟩
  | succ d ih =>
    intro n x a l h μ hC hM hx hn
    cases n with
    | zero => omega
    | succ n =>
      have z : ¬ (60 : Int32) < nI x := nI_nlt (a := 60) (b := x) (by omega) (by omega)
      obtain ⟨h', k1, k2, k3⟩ := c_try hC hI hc (b := x) (by omega)
      have k0 : Cn (h' 0) g := by rw [k3 0 (by omega)]; exact hC
      have z2 := c_brought2 k0 k2
      obtain ⟨μ', d1, d2, d3⟩ := o_ifB hM hI hc (b := x) (j := 0) (by omega) (by omega)
      have d1' : F_X7_ifBound μ (nI x) 0 = some (nI (stp (seG g 0 x) 20).2, μ') := d1
      have e1 : F_X6_leastBound_L15 (n + 1) h a l (nI x) = lm_br (l ≤ nI (stp (seG g 0 x) 20).2) (F_X6_leastBound_L15 n h' a l (nI (x + 1))) (F_X6_leastBound_L15 n h' (nI x) (nI (stp (seG g 0 x) 20).2) (nI (x + 1))) := by
        rw [F_X6_leastBound_L15, lm_br, if_neg z, k1, lm_bd_some, z2, lm_bd_some, nI_1]
      have e2 : F_X7_leastBound_L11 (n + 1) μ a l (nI x) = lm_br (l ≤ nI (stp (seG g 0 x) 20).2) (F_X7_leastBound_L11 n μ' a l (nI (x + 1))) (F_X7_leastBound_L11 n μ' (nI x) (nI (stp (seG g 0 x) 20).2) (nI (x + 1))) := by
        rw [F_X7_leastBound_L11, lm_br, if_neg z, d1', lm_b2_some, nI_1]
      rw [e1, e2]
      by_cases w : l ≤ nI (stp (seG g 0 x) 20).2
      · obtain ⟨r, h2, μ2, i1, i2, i3, i4, i5⟩ := ih n (x + 1) a l h' μ' k0 d2 (by omega) (by omega)
        exact ⟨r, h2, μ2, by rw [lm_br, if_pos w]; exact i1, by rw [lm_br, if_pos w]; exact i2, i3, fun k hk => by rw [i4 k hk, k3 k hk], fun e he hf => by rw [i5 e he hf, d3 e he hf]⟩
      · obtain ⟨r, h2, μ2, i1, i2, i3, i4, i5⟩ := ih n (x + 1) (nI x) (nI (stp (seG g 0 x) 20).2) h' μ' k0 d2 (by omega) (by omega)
        exact ⟨r, h2, μ2, by rw [lm_br, if_neg w]; exact i1, by rw [lm_br, if_neg w]; exact i2, i3, fun k hk => by rw [i4 k hk, k3 k hk], fun e he hf => by rw [i5 e he hf, d3 e he hf]⟩
theorem q_least {t c : Nat} (hc : c + 20 ≤ 1000000) {h : Nat → Hp} {μ : Hp} (hR : R0 t c h μ) : ∃ r h' μ', F_X6_leastBound h = some (r, h') ∧ F_X7_leastBound μ = some (r, μ') ∧ R0 t c h' μ' ∧ Fq h h' μ μ' := by
  obtain ⟨g, p, n, H, hC, hM, hI, hH, hHs, hIH, h6⟩ := id hR
  obtain ⟨h1, k1, k2, k3⟩ := c_try hC hI hc (b := 0) (by omega)
  have k1' : F_X6_tryBound h 0 = some h1 := k1
  have k0 : Cn (h1 0) g := by rw [k3 0 (by omega)]; exact hC
  have z2 := c_brought2 k0 k2
  obtain ⟨μ1, d1, d2, d3⟩ := o_ifB hM hI hc (b := 0) (j := 0) (by omega) (by omega)
  have d1' : F_X7_ifBound μ 0 0 = some (nI (stp (seG g 0 0) 20).2, μ1) := d1
  obtain ⟨r, h2, μ2, i1, i2, i3, i4, i5⟩ := q_least_L hI hc 60 1000 1 0 (nI (stp (seG g 0 0) 20).2) h1 μ1 k0 d2 (by omega) (by omega)
  have hF : Fq h h2 μ μ2 := ⟨fun k hk => by rw [i4 k hk, k3 k hk], fun e he hf => by rw [i5 e he hf, d3 e he hf]⟩
  refine ⟨r, h2, μ2, ?_, ?_, R0_Fq hC hI hH hHs hIH h6 i3 hF, hF⟩
  · unfold F_X6_leastBound
    rw [k1', lm_bd_some, z2, lm_bd_some]
    exact i1
  · unfold F_X7_leastBound
    rw [d1', lm_b2_some]
    exact i2
end TB2
