/-! what the law does: dropping, settings, all deeds -/
section AC2
variable {t c : Nat} {h : Nat → Hp} {g : Nat → Nat}
theorem i_min1 {a : Nat} (h1 : 1 ≤ a) : nI a - (1 : Int32) = nI (a - 1) := ev_sub (b := 1) h1
theorem i_min0 (a : Nat) : nI a - (0 : Int32) = nI a := ev_sub (b := 0) (Nat.zero_le a)
theorem l_goneO_L {r : Nat} (hr : r < g 6) (h6 : g 6 ≤ 20) (h7 : g 7 ≤ 20) (ht : t < 1000) {x8 : Int32} : ∀ d n i (hx : Nat → Hp) (Mq Ml : List Nat), GC t c hx g → Ls (hx 9) (sh2 (un g 6 (g 6 - 1)) (57 + 2 * r) (57 + i)) Mq Ml → 2 * r ≤ i → i + d = 2 * (g 6 - 1) → d < n → ∃ h', F_L_isGone_L83 n hx 0 (nI r) x8 (nI i) = some (1, h') ∧ GA (t + 1) c h' (drO g r) := by
  intro d
  induction d with
  | zero =>
    intro n i hx Mq Ml hG hL hri hi hn
    cases n with
    | zero => omega
    | succ n =>
      have ei : i = 2 * (g 6 - 1) := by omega
      have u6 : hx 9 0 6 = nI (g 6 - 1) := by rw [hL.1 6 (by omega), sh2_out (by omega), un_same]
      have u7 : hx 9 0 7 = nI (g 7) := by rw [hL.1 7 (by omega), sh2_out (by omega), un_ne _ _ (by omega)]
      have e2 : (2 : Int32) * nI (g 6 - 1) = nI (2 * (g 6 - 1)) := by rw [ev_k2, ev_mul]
      rw [F_L_isGone_L83, lm_br, if_pos rfl, u6, e2, lm_br, if_pos (nI_le (by omega) (by omega)), u7, lm_br]
      have fin : ∀ x : Nat, x = g 7 - (if r < g 7 then 1 else 0) → ∃ h', (lm_lt (lm_uB hx 9 (lm_u (hx 9) 0 7 (nI x))) fun h12 => lm_b2 (F_X6_drop h12 0 (nI r)) fun r14 h13 => lm_lt (lm_uB h13 9 (h12 9)) fun h15 => lm_br (¬ r14 = (h15 9 0 6)) (some ((0 : Int32), h15)) (some ((1 : Int32), h15))) = some (1, h') ∧ GA (t + 1) c h' (drO g r) := by
        intro x ex
        have hL2 := Ls_u hL (i := 7) (by omega) x
        have eg : un (sh2 (un g 6 (g 6 - 1)) (57 + 2 * r) (57 + i)) 7 x = drO g r := by rw [ei, ex]; rfl
        rw [eg] at hL2
        obtain ⟨h', a1, a2⟩ := gc_drop0 (gc_9 hG (lm_u (hx 9) 0 7 (nI x))) ht hr
        have u6' : lm_u (hx 9) 0 7 (nI x) 0 6 = nI (g 6 - 1) := by rw [hL2.1 6 (by omega), drO_6]
        rw [lm_lt_eq, a1, lm_b2_some, lm_lt_eq]
        simp only [uB_same]
        rw [u6', lm_br, if_neg (not_not_intro rfl)]
        exact ⟨_, rfl, ga_of (t := t) (c := c) (h := hx) a2 ⟨Mq, Ml, hL2⟩⟩
      by_cases q : r < g 7
      · rw [if_neg (nI_ge q (by omega)), i_min1 (by omega)]
        exact fin _ (by rw [if_pos q])
      · rw [if_pos (nI_le (by omega) (by omega)), i_min0]
        exact fin _ (by rw [if_neg q]; rfl)
  | succ d ih =>
    intro n i hx Mq Ml hG hL hri hi hn
    cases n with
    | zero => omega
    | succ n =>
      have u6 : hx 9 0 6 = nI (g 6 - 1) := by rw [hL.1 6 (by omega), sh2_out (by omega), un_same]
      have e2 : (2 : Int32) * nI (g 6 - 1) = nI (2 * (g 6 - 1)) := by rw [ev_k2, ev_mul]
      have ei2 : nI i + (2 : Int32) = nI (i + 2) := nI_add i 2
      have v : hx 9 2 (i + 2) = nI (un g 6 (g 6 - 1) (57 + i + 2)) := by
        rw [(hL.2.1 (i + 2) (by omega)).2, sh2_out (by omega)]
        rfl
      rw [F_L_isGone_L83, lm_br, if_pos rfl, u6, e2, lm_br, if_neg (nI_ge (by omega) (by omega)), ei2, ev_gi (by omega) (by omega), ev_gi (by omega) (by omega), ev_cl (by omega), ev_cl (by omega), lm_lt_eq, v, nI_1]
      refine ih n (i + 1) _ Mq Ml (gc_9 hG _) ?_ (by omega) (by omega) (by omega)
      rw [uB_same]
      refine Ls_congr (Ls_o hL (i := i) (by omega) (un g 6 (g 6 - 1) (57 + i + 2))) (fun j hj _ => ?_)
      exact (sh2_step (un g 6 (g 6 - 1)) (lo := 57 + 2 * r) (hi := 57 + i) (by omega) j).symm
theorem l_goneI_L {r : Nat} (hr : r < g 5) (h5 : g 5 ≤ 20) (h2 : g 2 ≤ 2) (hk : g (17 + 2 * r) < 10) : ∀ d n i (hx : Nat → Hp) (Mq Ml : List Nat), GC t c hx g → Ls (hx 9) (sh2 (un g 5 (g 5 - 1)) (17 + 2 * r) (17 + i)) Mq Ml → 2 * r ≤ i → i + d = 2 * (g 5 - 1) → d < n → ∃ h', F_L_isGone_L83 n hx 1 (nI r) (nI (g (17 + 2 * r))) (nI i) = some (1, h') ∧ GA t c h' (kp (drI g r) (g (17 + 2 * r)) (g (17 + 2 * r))) := by
  intro d
  induction d with
  | zero =>
    intro n i hx Mq Ml hG hL hri hi hn
    cases n with
    | zero => omega
    | succ n =>
      have ei : i = 2 * (g 5 - 1) := by omega
      have eg : sh2 (un g 5 (g 5 - 1)) (17 + 2 * r) (17 + i) = drI g r := by rw [ei]; rfl
      rw [eg] at hL
      have u5 : hx 9 0 5 = nI (g 5 - 1) := by rw [hL.1 5 (by omega), drI_5]
      have e2 : (2 : Int32) * nI (g 5 - 1) = nI (2 * (g 5 - 1)) := by rw [ev_k2, ev_mul]
      have d2 : drI g r 2 = g 2 := drI_e g h5 (by omega) (by omega)
      obtain ⟨σ', Mq', Ml', k1, k2⟩ := l_kept hL (by rw [d2]; exact h2) hk hk
      obtain ⟨h', a1, a2⟩ := gc_drop1 (gc_9 hG σ') hr
      have u5' : σ' 0 5 = nI (g 5 - 1) := by rw [k2.1 5 (by omega), kp_Sm _ _ _ 5 (by omega) (by omega), drI_5]
      rw [F_L_isGone_L83, lm_br, if_neg (by decide), u5, e2, lm_br, if_pos (nI_le (by omega) (by omega)), k1, lm_bd_some, lm_lt_eq, a1, lm_b2_some, lm_lt_eq]
      simp only [uB_same]
      rw [u5', lm_br, if_neg (not_not_intro rfl)]
      exact ⟨_, rfl, ga_of (t := t) (c := c) (h := hx) a2 ⟨Mq', Ml', k2⟩⟩
  | succ d ih =>
    intro n i hx Mq Ml hG hL hri hi hn
    cases n with
    | zero => omega
    | succ n =>
      have u5 : hx 9 0 5 = nI (g 5 - 1) := by rw [hL.1 5 (by omega), sh2_out (by omega), un_same]
      have e2 : (2 : Int32) * nI (g 5 - 1) = nI (2 * (g 5 - 1)) := by rw [ev_k2, ev_mul]
      have ei2 : nI i + (2 : Int32) = nI (i + 2) := nI_add i 2
      have v : hx 9 1 (i + 2) = nI (un g 5 (g 5 - 1) (17 + i + 2)) := by
        rw [(hL.2.1 (i + 2) (by omega)).1, sh2_out (by omega)]
        rfl
      rw [F_L_isGone_L83, lm_br, if_neg (by decide), u5, e2, lm_br, if_neg (nI_ge (by omega) (by omega)), ei2, ev_gi (by omega) (by omega), ev_gi (by omega) (by omega), ev_cl (by omega), ev_cl (by omega), lm_lt_eq, v, nI_1]
      refine ih n (i + 1) _ Mq Ml (gc_9 hG _) ?_ (by omega) (by omega) (by omega)
      rw [uB_same]
      refine Ls_congr (Ls_i hL (i := i) (by omega) (un g 5 (g 5 - 1) (17 + i + 2))) (fun j hj _ => ?_)
      exact (sh2_step (un g 5 (g 5 - 1)) (lo := 17 + 2 * r) (hi := 17 + i) (by omega) j).symm
theorem l_isGone0 (hA : GA t c h g) (ht : t < 1000) {r : Nat} (hr : r < 20) : ∃ h' g', F_L_isGone h 0 (nI r) = some (1, h') ∧ GA (t + 1) c h' g' := by
  obtain ⟨hG, Mq, Ml, hL⟩ := hA
  have b6 := hG.inn.2.1.1
  have b7 := hG.inn.2.1.2.1
  have bc := hG.inn.2.2.2.2.2.2.2
  have u6 : h 9 0 6 = nI (g 6) := hL.1 6 (by omega)
  have e2 : (2 : Int32) * nI r = nI (2 * r) := by rw [ev_k2, ev_mul]
  unfold F_L_isGone
  rw [lm_br, if_pos rfl, u6, lm_br]
  by_cases q : r < g 6
  · rw [if_pos (nI_lt q (by omega)), e2, ev_gi (by omega) (by omega), lm_lt_eq, i_min1 (by omega), lm_lt_eq]
    obtain ⟨h', a1, a2⟩ := l_goneO_L (t := t) (c := c) q b6 (by omega) ht (x8 := h 9 2 (nI (2 * r)).toNatClampNeg) (2 * (g 6 - 1) - 2 * r) 1000 (2 * r) (lm_uB h 9 (lm_u (h 9) 0 6 (nI (g 6 - 1)))) Mq Ml (gc_9 hG _) (by
      rw [uB_same]
      exact Ls_congr (Ls_u hL (i := 6) (by omega) (g 6 - 1)) (fun j hj _ => sh2_e 57 r j)) (Nat.le_refl _) (by omega) (by omega)
    exact ⟨h', _, a1, a2⟩
  · obtain ⟨h', a1, a2⟩ := gc_drop0N hG (r := r) (by omega) (by omega)
    rw [if_neg (nI_nlt (by omega) (by omega)), a1, lm_b2_some, lm_lt_eq, lm_br, if_neg (by decide)]
    exact ⟨_, g, rfl, ga_of (t := t) (c := c) (h := h) (gc_mono a2 (Nat.le_succ t) (Nat.le_refl c) (by omega) bc) ⟨Mq, Ml, hL⟩⟩
theorem l_isGone1 (hA : GA t c h g) {r : Nat} (hr : r < 20) : ∃ h' g', F_L_isGone h 1 (nI r) = some (1, h') ∧ GA t c h' g' := by
  obtain ⟨hG, Mq, Ml, hL⟩ := hA
  obtain ⟨b5, b3, b4, hrow⟩ := id hG.inn.1
  have u5 : h 9 0 5 = nI (g 5) := hL.1 5 (by omega)
  have e2 : (2 : Int32) * nI r = nI (2 * r) := by rw [ev_k2, ev_mul]
  unfold F_L_isGone
  rw [lm_br, if_neg (by decide), u5, lm_br]
  by_cases q : r < g 5
  · have hk := (hrow r q).1
    rw [if_pos (nI_lt q (by omega)), e2, ev_gi (by omega) (by omega), lm_lt_eq, i_min1 (by omega), lm_lt_eq, ev_cl (by omega), (hL.2.1 _ (by omega)).1]
    obtain ⟨h', a1, a2⟩ := l_goneI_L (t := t) (c := c) q b5 hG.inn.2.2.2.1.2.2 hk (2 * (g 5 - 1) - 2 * r) 1000 (2 * r) (lm_uB h 9 (lm_u (h 9) 0 5 (nI (g 5 - 1)))) Mq Ml (gc_9 hG _) (by
      rw [uB_same]
      exact Ls_congr (Ls_u hL (i := 5) (by omega) (g 5 - 1)) (fun j hj _ => sh2_e 17 r j)) (Nat.le_refl _) (by omega) (by omega)
    exact ⟨h', _, a1, a2⟩
  · obtain ⟨h', a1, a2⟩ := gc_drop1N hG (r := r) (by omega) (by omega)
    rw [if_neg (nI_nlt (by omega) (by omega)), a1, lm_b2_some, lm_lt_eq, lm_br, if_neg (by decide)]
    exact ⟨_, g, rfl, ga_of (t := t) (c := c) (h := h) a2 ⟨Mq, Ml, hL⟩⟩
def ss1 (h : Nat → Hp) (x6 v : Int32) : Option (Int32 × (Nat → Hp)) :=
  lm_gi x6 16
  (lm_lt (lm_uB h 9 (lm_u (h 9) 0 (x6.toNatClampNeg) v)) fun h5 =>
  lm_b2 (F_L_goes (h5 9) (-1 : Int32)) fun r8 τ7 =>
  lm_lt (lm_uB h5 9 τ7) fun h9 =>
  lm_b2 (F_X6_set h9 x6 v) fun r11 h10 =>
  lm_lt (lm_uB h10 9 (h9 9)) fun h12 =>
  lm_br (¬ r11 = r8)
   (some ((0 : Int32), h12))
   (some ((1 : Int32), h12)))
def ss0 (h : Nat → Hp) (x6 v : Int32) : Option (Int32 × (Nat → Hp)) :=
  lm_gi x6 16
  (lm_lt (lm_uB h 9 (lm_u (h 9) 0 (x6.toNatClampNeg) v)) fun h5 =>
  lm_b2 (F_L_room (h5 9) (-1 : Int32)) fun r8 τ7 =>
  lm_lt (lm_uB h5 9 τ7) fun h9 =>
  lm_b2 (F_X6_set h9 x6 v) fun r11 h10 =>
  lm_lt (lm_uB h10 9 (h9 9)) fun h12 =>
  lm_br (¬ r11 = r8)
   (some ((0 : Int32), h12))
   (some ((1 : Int32), h12)))
theorem isSet_eq (h : Nat → Hp) (x6 x7 : Int32) : F_L_isSet h x6 x7 = lm_br (¬ x6 = 0) (lm_br ((3 : Int32) ≤ x6) (lm_br (¬ x6 = (3 : Int32)) (ss1 h x6 ((99 : Int32) - (x7 - x7 / (40 : Int32) * (40 : Int32)))) (ss1 h x6 (x7 - x7 / (40 : Int32) * (40 : Int32)))) (ss1 h x6 (x7 - x7 / (3 : Int32) * (3 : Int32)))) (ss0 h x6 (x7 - x7 / (61 : Int32) * (61 : Int32))) := rfl
theorem l_ss1 (hA : GA t c h g) {i x : Nat} (hi : i < 5) (h0 : i ≠ 0) (hx : x ≤ hsN i) : ∃ h' g', ss1 h (nI i) (nI x) = some (1, h') ∧ GA t c h' g' := by
  obtain ⟨hG, Mq, Ml, hL⟩ := hA
  have hL2 := Ls_u hL (i := i) (by omega) x
  obtain ⟨σ', a1, a2⟩ := l_goesA hL2
  obtain ⟨h', b1, b2⟩ := gc_set (gc_9 hG σ') hi hx
  have e1 : seN g i x = kno (un g i x) := if_neg h0
  have e2 : seG g i x = la (un g i x) := if_neg h0
  rw [e1] at b1
  rw [e2] at b2
  unfold ss1
  rw [ev_gi (by omega) (by omega), lm_lt_eq, ev_cl (by omega)]
  simp only [uB_same]
  rw [a1, lm_b2_some, lm_lt_eq]
  simp only [uB_same, uB_uB]
  rw [b1, lm_b2_some, lm_lt_eq, lm_br, if_neg (not_not_intro rfl)]
  exact ⟨_, _, rfl, ga_of (t := t) (c := c) (h := h) b2 ⟨_, _, a2⟩⟩
theorem l_ss0 (hA : GA t c h g) {x : Nat} (hx : x ≤ 60) : ∃ h' g', ss0 h (nI 0) (nI x) = some (1, h') ∧ GA t c h' g' := by
  obtain ⟨hG, Mq, Ml, hL⟩ := hA
  have hL2 := Ls_u hL (i := 0) (by omega) x
  have hI2 := seU_In hG.inn (i := 0) (x := x) (by omega) hx
  obtain ⟨σ', Mq', Ml', a1, a2⟩ := l_room (sp := 10) (spi := -1) (Or.inr ⟨Nat.le_refl _, rfl⟩) hL2 hI2.kc hI2.1 hI2.2.2.2.1.1
  obtain ⟨h', b1, b2⟩ := gc_set (gc_9 hG σ') (i := 0) (by omega) hx
  have e1 : seN g 0 x = (mr (un g 0 x) 10).2 := if_pos rfl
  have e2 : seG g 0 x = (mr (un g 0 x) 10).1 := if_pos rfl
  rw [e1] at b1
  rw [e2] at b2
  unfold ss0
  rw [ev_gi (by omega) (by omega), lm_lt_eq, ev_cl (by omega)]
  simp only [uB_same]
  rw [a1, lm_b2_some, lm_lt_eq]
  simp only [uB_same, uB_uB]
  rw [b1, lm_b2_some, lm_lt_eq, lm_br, if_neg (not_not_intro rfl)]
  exact ⟨_, _, rfl, ga_of (t := t) (c := c) (h := h) b2 ⟨_, _, a2⟩⟩
theorem l_isSet (hA : GA t c h g) {i y : Nat} (hi : i < 5) (hy : y < 2147483648) : ∃ h' g', F_L_isSet h (nI i) (nI y) = some (1, h') ∧ GA t c h' g' := by
  have r40 : nI y - nI y / (40 : Int32) * (40 : Int32) = nI (y % 40) := nd_rem (d := 40) hy (by omega) (by omega)
  have r3 : nI y - nI y / (3 : Int32) * (3 : Int32) = nI (y % 3) := nd_rem (d := 3) hy (by omega) (by omega)
  have r61 : nI y - nI y / (61 : Int32) * (61 : Int32) = nI (y % 61) := nd_rem (d := 61) hy (by omega) (by omega)
  have r99 : (99 : Int32) - nI (y % 40) = nI (99 - y % 40) := ev_sub (a := 99) (by omega)
  rw [isSet_eq, r40, r3, r61, r99]
  have : i = 0 ∨ i = 1 ∨ i = 2 ∨ i = 3 ∨ i = 4 := by omega
  rcases this with q | q | q | q | q <;> subst q
  · rw [lm_br, if_neg (by decide)]
    exact l_ss0 hA (by omega)
  · rw [lm_br, if_pos (by decide), lm_br, if_neg (by decide)]
    exact l_ss1 hA (by omega) (by omega) (show y % 3 ≤ 2 by omega)
  · rw [lm_br, if_pos (by decide), lm_br, if_neg (by decide)]
    exact l_ss1 hA (by omega) (by omega) (show y % 3 ≤ 2 by omega)
  · rw [lm_br, if_pos (by decide), lm_br, if_pos (by decide), lm_br, if_neg (by decide)]
    exact l_ss1 hA (by omega) (by omega) (show y % 40 ≤ 99 by omega)
  · rw [lm_br, if_pos (by decide), lm_br, if_pos (by decide), lm_br, if_pos (by decide)]
    exact l_ss1 hA (by omega) (by omega) (show 99 - y % 40 ≤ 99 by omega)
end AC2
