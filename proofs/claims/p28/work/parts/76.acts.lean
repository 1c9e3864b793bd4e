/-! what the law does: a row comes, a row goes -/
section AC1
theorem uB_uB (h : Nat → Hp) (c : Nat) (σ τ : Hp) : lm_uB (lm_uB h c σ) c τ = lm_uB h c τ := by
  funext j
  by_cases q : j = c
  · subst q
    rw [uB_same, uB_same]
  · rw [uB_ne _ _ q, uB_ne _ _ q, uB_ne _ _ q]
/-- class and law stand for g -/
def GA (t c : Nat) (h : Nat → Hp) (g : Nat → Nat) : Prop := GC t c h g ∧ LR (h 9) g
variable {t c : Nat} {h : Nat → Hp} {g : Nat → Nat}
/-- behind a call of the object -/
theorem ga_of {t c t' c' : Nat} {h h' : Nat → Hp} {g' : Nat → Nat} {σ : Hp} (hG : GC t' c' h' g') (hL : LR σ g') : GA t' c' (lm_uB h' 9 σ) g' := ⟨gc_9 hG σ, by rw [uB_same]; exact hL⟩
theorem Ls_i {σ : Hp} {Mq Ml : List Nat} (h : Ls σ g Mq Ml) {i : Nat} (hi : i < 40) (x : Nat) : Ls (lm_u σ 1 i (nI x)) (un g (17 + i) x) Mq Ml := by
  obtain ⟨h1, h2, h3⟩ := h
  refine ⟨fun j hj => ?_, fun j hj => ?_, Lk_congr h3 (lu_c _ _ _ (by omega)) (lu_c _ _ _ (by omega)) (lu_c _ _ _ (by omega)) (fun j a b => un_ne _ _ (by omega))⟩
  · rw [lu_c _ _ _ (by omega), un_ne _ _ (by omega)]
    exact h1 j hj
  · rw [lu_c _ _ (d := 2) _ (by omega), un_ne _ _ (show 57 + j ≠ 17 + i by omega)]
    by_cases q : j = i
    · rw [q, lu_same, un_same]
      exact ⟨rfl, (h2 i hi).2⟩
    · rw [lu_ne _ _ q, un_ne _ _ (by omega)]
      exact h2 j hj
theorem Ls_o {σ : Hp} {Mq Ml : List Nat} (h : Ls σ g Mq Ml) {i : Nat} (hi : i < 40) (x : Nat) : Ls (lm_u σ 2 i (nI x)) (un g (57 + i) x) Mq Ml := by
  obtain ⟨h1, h2, h3⟩ := h
  refine ⟨fun j hj => ?_, fun j hj => ?_, Lk_congr h3 (lu_c _ _ _ (by omega)) (lu_c _ _ _ (by omega)) (lu_c _ _ _ (by omega)) (fun j a b => un_ne _ _ (by omega))⟩
  · rw [lu_c _ _ _ (by omega), un_ne _ _ (by omega)]
    exact h1 j hj
  · rw [lu_c _ _ (d := 1) _ (by omega), un_ne _ _ (show 17 + j ≠ 57 + i by omega)]
    by_cases q : j = i
    · rw [q, lu_same, un_same]
      exact ⟨(h2 i hi).1, rfl⟩
    · rw [lu_ne _ _ q, un_ne _ _ (by omega)]
      exact h2 j hj
/-- what comes behind the reading of key and value -/
def rt0 (h : Nat → Hp) (k v : Int32) : Option (Int32 × (Nat → Hp)) :=
  lm_br (¬ (h 9 0 6) = (20 : Int32))
   (lm_gi ((2 : Int32) * (h 9 0 6)) 44
   (lm_lt (lm_uB h 9 (lm_u (h 9) 2 ((((2 : Int32) * (h 9 0 6))).toNatClampNeg) k)) fun h7 =>
   lm_gi (((2 : Int32) * (h 9 0 6)) + (1 : Int32)) 44
   (lm_lt (lm_uB h7 9 (lm_u (h7 9) 2 (((((2 : Int32) * (h 9 0 6)) + (1 : Int32))).toNatClampNeg) v)) fun h8 =>
   lm_lt (lm_uB h8 9 (lm_u (h8 9) 0 6 ((h8 9 0 6) + (1 : Int32)))) fun h9 =>
   lm_b2 (F_X6_add h9 0 k v) fun r11 h10 =>
   lm_lt (lm_uB h10 9 (h9 9)) fun h12 =>
   lm_br (¬ r11 = (h 9 0 6))
    (some ((0 : Int32), h12))
    (some ((1 : Int32), h12)))))
   (lm_b2 (F_X6_add h 0 k v) fun r17 h16 =>
   lm_lt (lm_uB h16 9 (h 9)) fun h18 =>
   lm_br (¬ r17 = (-3 : Int32))
    (some ((0 : Int32), h18))
    (some ((1 : Int32), h18)))
def rt1 (h : Nat → Hp) (k v : Int32) : Option (Int32 × (Nat → Hp)) :=
  lm_br (¬ (h 9 0 5) = (20 : Int32))
   (lm_gi ((2 : Int32) * (h 9 0 5)) 44
   (lm_lt (lm_uB h 9 (lm_u (h 9) 1 ((((2 : Int32) * (h 9 0 5))).toNatClampNeg) k)) fun h42 =>
   lm_gi (((2 : Int32) * (h 9 0 5)) + (1 : Int32)) 44
   (lm_lt (lm_uB h42 9 (lm_u (h42 9) 1 (((((2 : Int32) * (h 9 0 5)) + (1 : Int32))).toNatClampNeg) v)) fun h43 =>
   lm_lt (lm_uB h43 9 (lm_u (h43 9) 0 5 ((h43 9 0 5) + (1 : Int32)))) fun h44 =>
   lm_bd (F_L_kept (h44 9) k k) fun τ45 =>
   lm_lt (lm_uB h44 9 τ45) fun h46 =>
   lm_b2 (F_X6_add h46 1 k v) fun r48 h47 =>
   lm_lt (lm_uB h47 9 (h46 9)) fun h49 =>
   lm_br (¬ r48 = (h 9 0 5))
    (some ((0 : Int32), h49))
    (some ((1 : Int32), h49)))))
   (lm_b2 (F_X6_add h 1 k v) fun r54 h53 =>
   lm_lt (lm_uB h53 9 (h 9)) fun h55 =>
   lm_br (¬ r54 = (-3 : Int32))
    (some ((0 : Int32), h55))
    (some ((1 : Int32), h55)))
theorem isRow_0 (h : Nat → Hp) (y : Int32) : F_L_isRow h 0 y = lm_br (¬ (y - y / (3 : Int32) * (3 : Int32)) = 0) (rt0 h ((y / (3 : Int32)) - (y / (3 : Int32)) / (4 : Int32) * (4 : Int32)) ((y / (30 : Int32)) - (y / (30 : Int32)) / (100 : Int32) * (100 : Int32))) (rt0 h ((y / (3 : Int32)) - (y / (3 : Int32)) / (10 : Int32) * (10 : Int32)) ((y / (30 : Int32)) - (y / (30 : Int32)) / (100 : Int32) * (100 : Int32))) := by
  unfold F_L_isRow
  rw [lm_br, if_pos rfl]
  rfl
theorem isRow_1 (h : Nat → Hp) (y : Int32) : F_L_isRow h 1 y = lm_br (¬ (y - y / (3 : Int32) * (3 : Int32)) = 0) (rt1 h ((y / (3 : Int32)) - (y / (3 : Int32)) / (4 : Int32) * (4 : Int32)) ((y / (30 : Int32)) - (y / (30 : Int32)) / (100 : Int32) * (100 : Int32))) (rt1 h ((y / (3 : Int32)) - (y / (3 : Int32)) / (10 : Int32) * (10 : Int32)) ((y / (30 : Int32)) - (y / (30 : Int32)) / (100 : Int32) * (100 : Int32))) := by
  unfold F_L_isRow
  rw [lm_br, if_neg (by decide)]
  rfl
theorem l_rt0 (hA : GA t c h g) {k v : Nat} (hk : k < 10) (hv : v ≤ 99) : ∃ h' g', rt0 h (nI k) (nI v) = some (1, h') ∧ GA t c h' g' := by
  obtain ⟨hG, Mq, Ml, hL⟩ := hA
  have b6 := hG.inn.2.1.1
  have u6 : h 9 0 6 = nI (g 6) := hL.1 6 (by omega)
  unfold rt0
  rw [u6, lm_br]
  by_cases q : g 6 = 20
  · obtain ⟨h', a1, a2⟩ := gc_add0F hG hk hv q
    rw [if_neg (not_not_intro (by rw [q]; rfl)), a1, lm_b2_some, lm_lt_eq, lm_br, if_neg (by decide)]
    exact ⟨_, g, rfl, ga_of (t := t) (c := c) (h := h) a2 ⟨Mq, Ml, hL⟩⟩
  · have l6 : g 6 < 20 := by omega
    have e2 : (2 : Int32) * nI (g 6) = nI (2 * g 6) := by rw [ev_k2, ev_mul]
    rw [if_pos (show ¬ nI (g 6) = (20 : Int32) from fun z => q ((nI_eq (b := 20) (by omega) (by omega)).mp z)), e2, nI_1, ev_gi (by omega) (by omega), lm_lt_eq, ev_gi (by omega) (by omega), lm_lt_eq, lm_lt_eq, ev_cl (by omega), ev_cl (by omega)]
    simp only [uB_same, uB_uB]
    have c6 : lm_u (lm_u (h 9) 2 (2 * g 6) (nI k)) 2 (2 * g 6 + 1) (nI v) 0 6 = nI (g 6) := by
      rw [lu_c _ _ _ (by omega), lu_c _ _ _ (by omega)]
      exact u6
    rw [c6, nI_1]
    have hL2 : Ls (lm_u (lm_u (lm_u (h 9) 2 (2 * g 6) (nI k)) 2 (2 * g 6 + 1) (nI v)) 0 6 (nI (g 6 + 1))) (adO g k v) Mq Ml := Ls_u (Ls_o (Ls_o hL (by omega) k) (by omega) v) (by omega) _
    obtain ⟨h', a1, a2⟩ := gc_add0 (gc_9 hG (lm_u (lm_u (lm_u (h 9) 2 (2 * g 6) (nI k)) 2 (2 * g 6 + 1) (nI v)) 0 6 (nI (g 6 + 1)))) hk hv l6
    rw [a1, lm_b2_some, lm_lt_eq, lm_br, if_neg (not_not_intro rfl)]
    exact ⟨_, _, rfl, ga_of (t := t) (c := c) (h := h) a2 ⟨Mq, Ml, hL2⟩⟩
theorem l_rt1 (hA : GA t c h g) {k v : Nat} (hk : k < 10) (hv : v ≤ 99) : ∃ h' g', rt1 h (nI k) (nI v) = some (1, h') ∧ GA t c h' g' := by
  obtain ⟨hG, Mq, Ml, hL⟩ := hA
  have b5 := hG.inn.1.1
  have u5 : h 9 0 5 = nI (g 5) := hL.1 5 (by omega)
  unfold rt1
  rw [u5, lm_br]
  by_cases q : g 5 = 20
  · obtain ⟨h', a1, a2⟩ := gc_add1F hG hk hv q
    rw [if_neg (not_not_intro (by rw [q]; rfl)), a1, lm_b2_some, lm_lt_eq, lm_br, if_neg (by decide)]
    exact ⟨_, g, rfl, ga_of (t := t) (c := c) (h := h) a2 ⟨Mq, Ml, hL⟩⟩
  · have l5 : g 5 < 20 := by omega
    have e2 : (2 : Int32) * nI (g 5) = nI (2 * g 5) := by rw [ev_k2, ev_mul]
    rw [if_pos (show ¬ nI (g 5) = (20 : Int32) from fun z => q ((nI_eq (b := 20) (by omega) (by omega)).mp z)), e2, nI_1, ev_gi (by omega) (by omega), lm_lt_eq, ev_gi (by omega) (by omega), lm_lt_eq, lm_lt_eq, ev_cl (by omega), ev_cl (by omega)]
    simp only [uB_same, uB_uB]
    have c5 : lm_u (lm_u (h 9) 1 (2 * g 5) (nI k)) 1 (2 * g 5 + 1) (nI v) 0 5 = nI (g 5) := by
      rw [lu_c _ _ _ (by omega), lu_c _ _ _ (by omega)]
      exact u5
    rw [c5, nI_1]
    have hL2 : Ls (lm_u (lm_u (lm_u (h 9) 1 (2 * g 5) (nI k)) 1 (2 * g 5 + 1) (nI v)) 0 5 (nI (g 5 + 1))) (adI g k v) Mq Ml := Ls_u (Ls_i (Ls_i hL (by omega) k) (by omega) v) (by omega) _
    have e2' : adI g k v 2 = g 2 := by
      unfold adI
      rw [un_ne _ _ (by omega), un_ne _ _ (by omega), un_ne _ _ (by omega)]
    obtain ⟨σ', Mq', Ml', k1, k2⟩ := l_kept hL2 (by rw [e2']; exact hG.inn.2.2.2.1.2.2) hk hk
    rw [k1, lm_bd_some, lm_lt_eq]
    simp only [uB_same, uB_uB]
    obtain ⟨h', a1, a2⟩ := gc_add1 (gc_9 hG σ') hk hv l5
    rw [a1, lm_b2_some, lm_lt_eq, lm_br, if_neg (not_not_intro rfl)]
    exact ⟨_, _, rfl, ga_of (t := t) (c := c) (h := h) a2 ⟨Mq', Ml', k2⟩⟩
theorem nd_rem {y d : Nat} (hy : y < 2147483648) (h0 : 0 < d) (hd : d < 2147483648) : nI y - nI y / nI d * nI d = nI (y % d) := pk_rem hy h0 hd
theorem nd_div {y d : Nat} (hy : y < 2147483648) (h0 : 0 < d) (hd : d < 2147483648) : nI y / nI d = nI (y / d) := pk_div hy h0 hd
theorem l_isRow (hA : GA t c h g) {y : Nat} (hy : y < 2147483648) : (∃ h' g', F_L_isRow h 0 (nI y) = some (1, h') ∧ GA t c h' g') ∧ ∃ h' g', F_L_isRow h 1 (nI y) = some (1, h') ∧ GA t c h' g' := by
  have d3 : nI y / (3 : Int32) = nI (y / 3) := nd_div (d := 3) hy (by omega) (by omega)
  have d30 : nI y / (30 : Int32) = nI (y / 30) := nd_div (d := 30) hy (by omega) (by omega)
  have b3 : y / 3 < 2147483648 := Nat.lt_of_le_of_lt (Nat.div_le_self y 3) hy
  have b30 : y / 30 < 2147483648 := Nat.lt_of_le_of_lt (Nat.div_le_self y 30) hy
  have r4 : nI (y / 3) - nI (y / 3) / (4 : Int32) * (4 : Int32) = nI (y / 3 % 4) := nd_rem (d := 4) b3 (by omega) (by omega)
  have r10 : nI (y / 3) - nI (y / 3) / (10 : Int32) * (10 : Int32) = nI (y / 3 % 10) := nd_rem (d := 10) b3 (by omega) (by omega)
  have r100 : nI (y / 30) - nI (y / 30) / (100 : Int32) * (100 : Int32) = nI (y / 30 % 100) := nd_rem (d := 100) b30 (by omega) (by omega)
  rw [isRow_0, isRow_1, d3, d30, r4, r10, r100, lm_br, lm_br]
  refine ⟨?_, ?_⟩
  · split
    · exact l_rt0 hA (by omega) (by omega)
    · exact l_rt0 hA (by omega) (by omega)
  · split
    · exact l_rt1 hA (by omega) (by omega)
    · exact l_rt1 hA (by omega) (by omega)
end AC1
