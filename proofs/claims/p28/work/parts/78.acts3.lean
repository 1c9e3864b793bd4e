/-! what the law does: every deed -/
section AC3
variable {t c : Nat} {h : Nat → Hp} {g : Nat → Nat}
theorem ga_up (hA : GA t c h g) (ht : t < 1000) (hc : c + 20 ≤ 1000000) : GA (t + 1) (c + 20) h g := ⟨gc_mono hA.1 (Nat.le_succ t) (Nat.le_add_right c 20) ht hc, hA.2⟩
def ch0 (h : Nat → Hp) (t40 t41 v : Int32) : Option (Int32 × (Nat → Hp)) :=
  lm_br (t40 < (h 9 0 5))
   (lm_gi ((2 : Int32) * t40) 44
   (lm_lt (h 9 1 (((2 : Int32) * t40)).toNatClampNeg) fun t44 =>
   lm_gi ((2 : Int32) * t40) 44
   (lm_lt (lm_uB h 9 (lm_u (h 9) 1 ((((2 : Int32) * t40)).toNatClampNeg) t41)) fun h45 =>
   lm_gi (((2 : Int32) * t40) + (1 : Int32)) 44
   (lm_lt (lm_uB h45 9 (lm_u (h45 9) 1 (((((2 : Int32) * t40) + (1 : Int32))).toNatClampNeg) v)) fun h46 =>
   lm_bd (F_L_kept (h46 9) t44 t41) fun τ47 =>
   lm_lt (lm_uB h46 9 τ47) fun h48 =>
   lm_b2 (F_X6_change h48 t40 t41 v) fun r50 h49 =>
   lm_lt (lm_uB h49 9 (h48 9)) fun h51 =>
   lm_bd (F_L_many (lw_f1 (h51 9 3))) fun r52 =>
   lm_br (¬ r50 = r52)
    (some ((0 : Int32), h51))
    (some ((1 : Int32), h51))))))
   (lm_b2 (F_X6_change h t40 t41 (50 : Int32)) fun r57 h56 =>
   lm_lt (lm_uB h56 9 (h 9)) fun h58 =>
   lm_br (¬ r57 = (-1 : Int32))
    (some ((0 : Int32), h58))
    (some ((1 : Int32), h58)))
def sp0 (h : Nat → Hp) (t27 : Int32) : Option (Int32 × (Nat → Hp)) :=
  lm_br (¬ (h 9 0 7) = (h 9 0 6))
   (lm_b2 (F_L_steps (h 9) t27) fun r30 τ29 =>
   lm_lt (lm_uB h 9 τ29) fun h31 =>
   lm_b2 (F_X6_step h31 t27) fun r33 h32 =>
   lm_lt (lm_uB h32 9 (h31 9)) fun h34 =>
   lm_br (¬ r33 = r30)
    (some ((0 : Int32), h34))
    (some ((1 : Int32), h34)))
   (lm_b2 (F_X6_step h t27) fun r37 h36 =>
   lm_lt (lm_uB h36 9 (h 9)) fun h38 =>
   lm_br (¬ r37 = (-2 : Int32))
    (some ((0 : Int32), h38))
    (some ((1 : Int32), h38)))
def ag0 (h : Nat → Hp) : Option (Int32 × (Nat → Hp)) :=
  lm_lt (lm_uB h 9 (lm_u (h 9) 0 7 (0 : Int32))) fun h21 =>
  lm_lt (lm_uB h21 9 (lm_u (h21 9) 0 8 (0 : Int32))) fun h22 =>
  lm_b2 (F_X6_again h22) fun r24 h23 =>
  lm_lt (lm_uB h23 9 (h22 9)) fun h25 =>
  lm_br (¬ r24 = (h 9 0 8))
   (some ((0 : Int32), h25))
   (some ((1 : Int32), h25))
def fo0 (h : Nat → Hp) : Option (Int32 × (Nat → Hp)) :=
  lm_b2 (F_L_goes (h 9) (-1 : Int32)) fun r15 τ14 =>
  lm_lt (lm_uB h 9 τ14) fun h16 =>
  lm_b2 (F_X6_forget h16) fun r18 h17 =>
  lm_lt (lm_uB h17 9 (h16 9)) fun h19 =>
  lm_br (¬ r18 = r15)
   (some ((0 : Int32), h19))
   (some ((1 : Int32), h19))
def gd0 (o : Option (Int32 × (Nat → Hp))) : Option (Int32 × (Nat → Hp)) := lm_b2 o fun r h => lm_gd (r = 0 ∨ r = 1) (some (r, h))
theorem isActed_eq (h : Nat → Hp) (x7 x8 : Int32) : F_L_isActed h x7 x8 = lm_br ((7 : Int32) ≤ x7) (lm_br ((9 : Int32) ≤ x7) (lm_br (¬ x7 = (9 : Int32)) (lm_br ((17 : Int32) ≤ x7) (lm_br ((19 : Int32) ≤ x7) (lm_br (¬ x7 = (19 : Int32)) (gd0 (F_L_isSet h (x8 - x8 / (5 : Int32) * (5 : Int32)) (x8 / (5 : Int32)))) (lm_br (¬ (x8 - x8 / (3 : Int32) * (3 : Int32)) = 0) (gd0 (F_L_isSet h (x8 - x8 / (5 : Int32) * (5 : Int32)) (x8 / (5 : Int32)))) (fo0 h))) (ag0 h)) (sp0 h ((1 : Int32) + (x8 - x8 / (6 : Int32) * (6 : Int32))))) (ch0 h (x8 - x8 / (20 : Int32) * (20 : Int32)) ((x8 / (20 : Int32)) - (x8 / (20 : Int32)) / (5 : Int32) * (5 : Int32)) ((x8 / (100 : Int32)) - (x8 / (100 : Int32)) / (100 : Int32) * (100 : Int32)))) (lm_br (¬ x7 = (7 : Int32)) (gd0 (F_L_isGone h (0 : Int32) (x8 - x8 / (20 : Int32) * (20 : Int32)))) (gd0 (F_L_isGone h (1 : Int32) (x8 - x8 / (20 : Int32) * (20 : Int32)))))) (lm_br ((4 : Int32) ≤ x7) (gd0 (F_L_isRow h (0 : Int32) x8)) (gd0 (F_L_isRow h (1 : Int32) x8))) := rfl
theorem gd_1 {o : Option (Int32 × (Nat → Hp))} {h' : Nat → Hp} (e : o = some (1, h')) : gd0 o = some (1, h') := by
  rw [e]
  rfl
theorem l_ch0 (hA : GA t c h g) {r k v : Nat} (hr : r < 20) (hk : k < 10) (hv : v ≤ 99) : ∃ h' g', ch0 h (nI r) (nI k) (nI v) = some (1, h') ∧ GA t c h' g' := by
  obtain ⟨hG, Mq, Ml, hL⟩ := hA
  obtain ⟨b5, b3, b4, hrow⟩ := id hG.inn.1
  have u5 : h 9 0 5 = nI (g 5) := hL.1 5 (by omega)
  have e2 : (2 : Int32) * nI r = nI (2 * r) := by rw [ev_k2, ev_mul]
  unfold ch0
  rw [u5, lm_br]
  by_cases q : r < g 5
  · have hk0 := (hrow r q).1
    have hL2 : Ls (lm_u (lm_u (h 9) 1 (2 * r) (nI k)) 1 (2 * r + 1) (nI v)) (chG g r k v) Mq Ml := Ls_i (Ls_i hL (by omega) k) (by omega) v
    have d2 : chG g r k v 2 = g 2 := chG_e g (by omega) (by omega)
    obtain ⟨σ', Mq', Ml', k1, k2⟩ := l_kept hL2 (by rw [d2]; exact hG.inn.2.2.2.1.2.2) hk0 hk
    obtain ⟨h', a1, a2⟩ := gc_change (gc_9 hG σ') q hk hv
    rw [if_pos (nI_lt q (by omega)), e2, nI_1, ev_gi (by omega) (by omega), lm_lt_eq, ev_gi (by omega) (by omega), lm_lt_eq, ev_gi (by omega) (by omega), lm_lt_eq, ev_cl (by omega), ev_cl (by omega), (hL.2.1 _ (by omega)).1]
    simp only [uB_same, uB_uB]
    rw [k1, lm_bd_some, lm_lt_eq]
    simp only [uB_same, uB_uB]
    rw [a1, lm_b2_some, lm_lt_eq]
    simp only [uB_same, uB_uB]
    rw [l_many k2.2.2.1, lm_bd_some, Kl_len (Lk_KlQ k2.2.2), lm_br, if_neg (not_not_intro rfl)]
    exact ⟨_, _, rfl, ga_of (t := t) (c := c) (h := h) a2 ⟨_, _, k2⟩⟩
  · obtain ⟨h', a1, a2⟩ := gc_changeN hG (r := r) (by omega) (by omega) (nI k) (50 : Int32)
    rw [if_neg (nI_nlt (by omega) (by omega)), a1, lm_b2_some, lm_lt_eq, lm_br, if_neg (by decide)]
    exact ⟨_, g, rfl, ga_of (t := t) (c := c) (h := h) a2 ⟨Mq, Ml, hL⟩⟩
theorem l_sp0 (hA : GA t c h g) (hc : c + 20 ≤ 1000000) {k : Nat} (h1 : 1 ≤ k) (h20 : k ≤ 20) : ∃ h' g', sp0 h (nI k) = some (1, h') ∧ GA t (c + 20) h' g' := by
  obtain ⟨hG, Mq, Ml, hL⟩ := hA
  have hI := hG.inn
  have b6 := hI.2.1.1
  have b7 := hI.2.1.2.1
  have u6 : h 9 0 6 = nI (g 6) := hL.1 6 (by omega)
  have u7 : h 9 0 7 = nI (g 7) := hL.1 7 (by omega)
  unfold sp0
  rw [u6, u7, lm_br]
  by_cases q : g 7 = g 6
  · obtain ⟨h', a1, a2⟩ := gc_stepN hG h1 h20 q
    rw [if_neg (not_not_intro (by rw [q])), a1, lm_b2_some, lm_lt_eq, lm_br, if_neg (by decide)]
    exact ⟨_, g, rfl, ga_of (t := t) (c := c) (h := h) (gc_mono a2 (Nat.le_refl t) (Nat.le_add_right c 20) hI.2.2.2.2.2.2.1 hc) ⟨Mq, Ml, hL⟩⟩
  · obtain ⟨σ', Mq', Ml', k1, k2⟩ := l_steps hL hI h20 (by omega)
    obtain ⟨h', a1, a2⟩ := gc_step (gc_9 hG σ') h1 h20 hc (by omega)
    rw [if_pos (fun z => q ((nI_eq (by omega) (by omega)).mp z)), k1, lm_b2_some, lm_lt_eq, a1, lm_b2_some, lm_lt_eq, lm_br, if_neg (not_not_intro rfl)]
    simp only [uB_same, uB_uB]
    exact ⟨_, _, rfl, ga_of (t := t) (c := c) (h := h) a2 ⟨_, _, k2⟩⟩
theorem l_ag0 (hA : GA t c h g) : ∃ h' g', ag0 h = some (1, h') ∧ GA t c h' g' := by
  obtain ⟨hG, Mq, Ml, hL⟩ := hA
  have u8 : h 9 0 8 = nI (g 8) := hL.1 8 (by omega)
  have hL2 : Ls (lm_u (lm_u (h 9) 0 7 0) 0 8 0) (agG g) Mq Ml := Ls_u (Ls_u hL (i := 7) (by omega) 0) (i := 8) (by omega) 0
  obtain ⟨h', a1, a2⟩ := gc_again (gc_9 hG (lm_u (lm_u (h 9) 0 7 0) 0 8 0))
  unfold ag0
  rw [lm_lt_eq, lm_lt_eq]
  simp only [uB_same, uB_uB]
  rw [a1, lm_b2_some, lm_lt_eq, u8, lm_br, if_neg (not_not_intro rfl)]
  exact ⟨_, _, rfl, ga_of (t := t) (c := c) (h := h) a2 ⟨_, _, hL2⟩⟩
theorem l_fo0 (hA : GA t c h g) : ∃ h' g', fo0 h = some (1, h') ∧ GA t c h' g' := by
  obtain ⟨hG, Mq, Ml, hL⟩ := hA
  obtain ⟨σ', k1, k2⟩ := l_goesA hL
  obtain ⟨h', a1, a2⟩ := gc_forget (gc_9 hG σ')
  unfold fo0
  rw [k1, lm_b2_some, lm_lt_eq, a1, lm_b2_some, lm_lt_eq, lm_br, if_neg (not_not_intro rfl)]
  simp only [uB_same, uB_uB]
  exact ⟨_, _, rfl, ga_of (t := t) (c := c) (h := h) a2 ⟨_, _, k2⟩⟩
theorem l_isActed (hA : GA t c h g) (ht : t < 1000) (hc : c + 20 ≤ 1000000) {w y : Nat} (hw : w < 21) (hy : y < 2147483648) : ∃ h' g', F_L_isActed h (nI w) (nI y) = some (1, h') ∧ GA (t + 1) (c + 20) h' g' := by
  have up : ∀ {o : Option (Int32 × (Nat → Hp))}, (∃ h' g', o = some (1, h') ∧ GA t c h' g') → ∃ h' g', o = some (1, h') ∧ GA (t + 1) (c + 20) h' g' := fun ⟨h', g', a, b⟩ => ⟨h', g', a, ga_up b ht hc⟩
  have gd : ∀ {o : Option (Int32 × (Nat → Hp))}, (∃ h' g', o = some (1, h') ∧ GA t c h' g') → ∃ h' g', gd0 o = some (1, h') ∧ GA (t + 1) (c + 20) h' g' := fun ⟨h', g', a, b⟩ => ⟨h', g', gd_1 a, ga_up b ht hc⟩
  have d5 : nI y / (5 : Int32) = nI (y / 5) := nd_div (d := 5) hy (by omega) (by omega)
  have d20 : nI y / (20 : Int32) = nI (y / 20) := nd_div (d := 20) hy (by omega) (by omega)
  have d100 : nI y / (100 : Int32) = nI (y / 100) := nd_div (d := 100) hy (by omega) (by omega)
  have b5 : y / 5 < 2147483648 := Nat.lt_of_le_of_lt (Nat.div_le_self y 5) hy
  have b20 : y / 20 < 2147483648 := Nat.lt_of_le_of_lt (Nat.div_le_self y 20) hy
  have b100 : y / 100 < 2147483648 := Nat.lt_of_le_of_lt (Nat.div_le_self y 100) hy
  have r5 : nI y - nI y / (5 : Int32) * (5 : Int32) = nI (y % 5) := nd_rem (d := 5) hy (by omega) (by omega)
  have r6 : (1 : Int32) + (nI y - nI y / (6 : Int32) * (6 : Int32)) = nI (1 + y % 6) := by
    rw [show nI y - nI y / (6 : Int32) * (6 : Int32) = nI (y % 6) from nd_rem (d := 6) hy (by omega) (by omega)]
    exact nI_add 1 _
  have r20 : nI y - nI y / (20 : Int32) * (20 : Int32) = nI (y % 20) := nd_rem (d := 20) hy (by omega) (by omega)
  have r205 : nI (y / 20) - nI (y / 20) / (5 : Int32) * (5 : Int32) = nI (y / 20 % 5) := nd_rem (d := 5) b20 (by omega) (by omega)
  have r1h : nI (y / 100) - nI (y / 100) / (100 : Int32) * (100 : Int32) = nI (y / 100 % 100) := nd_rem (d := 100) b100 (by omega) (by omega)
  rw [isActed_eq, r5, r6, r20, d5, d20, d100, r205, r1h, lm_br]
  by_cases q7 : 7 ≤ w
  · rw [if_pos (show (7 : Int32) ≤ nI w from nI_le (a := 7) q7 (by omega)), lm_br]
    by_cases q9 : 9 ≤ w
    · rw [if_pos (show (9 : Int32) ≤ nI w from nI_le (a := 9) q9 (by omega)), lm_br]
      by_cases e9 : w = 9
      · rw [if_neg (not_not_intro (by rw [e9]; rfl))]
        exact up (l_ch0 hA (by omega) (by omega) (by omega))
      · rw [if_pos (show ¬ nI w = (9 : Int32) from fun z => e9 ((nI_eq (b := 9) (by omega) (by omega)).mp z)), lm_br]
        by_cases q17 : 17 ≤ w
        · rw [if_pos (show (17 : Int32) ≤ nI w from nI_le (a := 17) q17 (by omega)), lm_br]
          by_cases q19 : 19 ≤ w
          · rw [if_pos (show (19 : Int32) ≤ nI w from nI_le (a := 19) q19 (by omega)), lm_br]
            split
            · exact gd (l_isSet hA (by omega) b5)
            · rw [lm_br]
              split
              · exact gd (l_isSet hA (by omega) b5)
              · exact up (l_fo0 hA)
          · rw [if_neg (show ¬ (19 : Int32) ≤ nI w from nI_ge (b := 19) (by omega) (by omega))]
            exact up (l_ag0 hA)
        · rw [if_neg (show ¬ (17 : Int32) ≤ nI w from nI_ge (b := 17) (by omega) (by omega))]
          obtain ⟨h', g', a, b⟩ := l_sp0 hA hc (k := 1 + y % 6) (by omega) (by omega)
          exact ⟨h', g', a, gc_mono b.1 (Nat.le_succ t) (Nat.le_refl _) ht hc, b.2⟩
    · rw [if_neg (show ¬ (9 : Int32) ≤ nI w from nI_ge (b := 9) (by omega) (by omega)), lm_br]
      split
      · obtain ⟨h', g', a, b⟩ := l_isGone0 hA ht (r := y % 20) (by omega)
        exact ⟨h', g', gd_1 a, gc_mono b.1 (Nat.le_refl _) (Nat.le_add_right c 20) ht hc, b.2⟩
      · exact gd (l_isGone1 hA (by omega))
  · rw [if_neg (show ¬ (7 : Int32) ≤ nI w from nI_ge (b := 7) (by omega) (by omega)), lm_br]
    split
    · exact gd (l_isRow hA hy).1
    · exact gd (l_isRow hA hy).2
end AC3
