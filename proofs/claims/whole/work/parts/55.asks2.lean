/-! more that is asked -/
section TQ2
variable {g : Nat → Nat} {μ : Hp}
theorem q_remembered {t c : Nat} {h : Nat → Hp} (hR : R0 t c h μ) (x1 x2 : Int32) : ∃ r, F_X6_remembered h x1 x2 = some r ∧ F_X7_remembered μ x1 x2 = some r := by
  obtain ⟨g, p, n, H, hC, hM, hI, hH, hHs, hIH, h6⟩ := hR
  obtain ⟨hT, hA, hY, hm⟩ := id hC
  have b16 := Nat.le_trans hI.2.2.2.2.2.1 hI.2.2.2.2.2.2.2
  rcases raw_key x1 with ⟨a1, a2⟩ | ⟨⟨a1, a2⟩, k, hk, e⟩
  · refine ⟨-1, ?_, ?_⟩
    · unfold F_X6_remembered
      rw [a2, lm_bd_some, lm_br, if_pos rfl]
    · unfold F_X7_remembered
      rw [a1, lm_bd_some, lm_br, if_pos rfl]
  · subst e
    rcases raw_in x2 (m := 5) (by omega) with ⟨b1, -⟩ | ⟨b1, -⟩
    · have b1' : F_X7_in x2 0 5 = some 0 := b1
      refine ⟨-1, ?_, ?_⟩
      · unfold F_X6_remembered
        rw [a2, lm_bd_some, lm_br, if_neg (by decide), within_in, b1', lm_bd_some, lm_br, if_neg (by decide)]
      · unfold F_X7_remembered
        rw [a1, lm_bd_some, lm_br, if_neg (by decide), b1', lm_bd_some, lm_br, if_neg (by decide)]
    · have b1' : F_X7_in x2 0 5 = some 1 := b1
      have e6 : F_X6_remembered h (nI k) x2 = lm_br (¬ (if 0 < g (97 + k) then nI 1 else nI 0) = 0) (lm_br (x2 = (4 : Int32)) (lm_bd (F_X2_uses (lm_sh 11 (h 0)) (nI k)) fun r8 => some r8) (lm_br (x2 = (5 : Int32)) (lm_bd (F_X4_setting (h 0) (1 : Int32)) fun r10 => lm_bd (F_X2_placeOf (lm_sh 11 (h 0)) (nI k) r10) fun r11 => some r11) (lm_bd (F_X0_tell (lm_sh 7 (h 0)) (nI k) x2) fun r12 => some r12))) (some (-4 : Int32)) := by
        unfold F_X6_remembered
        rw [a2, lm_bd_some, lm_br, if_neg (by decide), within_in, b1', lm_bd_some, lm_br, if_pos (by decide), c_known hm hI.2.2.1 b16 hk, lm_bd_some]
      have e7 : F_X7_remembered μ (nI k) x2 = lm_br (¬ (if 0 < g (97 + k) then nI 1 else nI 0) = 0) (lm_br (¬ x2 = (4 : Int32)) (lm_br (¬ x2 = (5 : Int32)) (lm_bd (F_X7_tell μ (nI k) x2) fun r9 => some r9) (lm_bd (F_X7_orderOf μ (nI k)) fun r10 => some r10)) (lm_gi ((97 : Int32) + nI k) 127 (some (μ 1 (((97 : Int32) + nI k)).toNatClampNeg)))) (some (-4 : Int32)) := by
        unfold F_X7_remembered
        rw [a1, lm_bd_some, lm_br, if_neg (by decide), b1', lm_bd_some, lm_br, if_pos (by decide), o_isKnown hM hk (hI.kb k hk), lm_bd_some]
      rw [e6, e7]
      by_cases w : 0 < g (97 + k)
      · have c3 : F_X2_uses (lm_sh 11 (h 0)) (nI k) = some (nI (g (97 + k))) := by
          obtain ⟨z, l, f, d1, d2, d3, d4⟩ := hm
          have d5 : lm_sh 11 (h 0) 1 k = nI (g (97 + k)) := (d3 k hk).1
          unfold F_X2_uses
          rw [lm_br, if_neg (nI_nn k (by omega)), lm_br, if_neg (show ¬ (10 : Int32) ≤ nI k from nI_ge (a := k) (b := 10) (by omega) (by omega)), ev_gi (by omega) (by omega), ev_cl (by omega), d5]
        have c4 : F_X4_setting (h 0) 1 = some (nI (g 1)) := by
          have d5 : h 0 15 1 = nI (g 1) := hT.2.2.2 1 (by omega)
          rw [← d5]
          rfl
        have e8 : (¬ (if 0 < g (97 + k) then nI 1 else nI 0) = (0 : Int32)) := by rw [if_pos w]; decide
        by_cases q4 : x2 = 4
        · refine ⟨nI (g (97 + k)), ?_, ?_⟩
          · rw [lm_br, if_pos e8, lm_br, if_pos q4, c3, lm_bd_some]
          · rw [lm_br, if_pos e8, lm_br, if_neg (not_not_intro q4), ev_k97, ev_add, ev_gi (by omega) (by omega), ev_cl (by omega), hM _ (by omega)]
        · by_cases q5 : x2 = 5
          · refine ⟨nI (oD g k 10 0), ?_, ?_⟩
            · rw [lm_br, if_pos e8, lm_br, if_neg q4, lm_br, if_pos q5, c4, lm_bd_some, c_placeOf hm hI.2.2.1 b16 hI.2.2.2.1.2.1 hk w, lm_bd_some]
            · rw [lm_br, if_pos e8, lm_br, if_pos q4, lm_br, if_neg (not_not_intro q5), o_orderOf hM hI.kc hk w, lm_bd_some]
          · refine ⟨tl g k x2, ?_, ?_⟩
            · rw [lm_br, if_pos e8, lm_br, if_neg q4, lm_br, if_neg q5, c_tell hA hI.1 hk, lm_bd_some]
            · rw [lm_br, if_pos e8, lm_br, if_pos q4, lm_br, if_pos q5, o_tell hM hI.1 hk, lm_bd_some]
      · have e8 : ¬ (¬ (if 0 < g (97 + k) then nI 1 else nI 0) = (0 : Int32)) := by rw [if_neg w]; decide
        exact ⟨-4, by rw [lm_br, if_neg e8], by rw [lm_br, if_neg e8]⟩
def tD (g : Nat → Nat) : Nat → Nat → Nat
  | 0, _ => 0
  | d + 1, i => g (58 + 2 * i) * sm g (g (57 + 2 * i)) + tD g d (i + 1)
theorem o_total_L (hM : Mo μ g) (hR : Rin g) (hO : Rou g) : ∀ d n i acc, i + d = g 6 → d < n → F_X7_total_L15 n μ (nI acc) (nI i) = some (nI (acc + tD g d i)) := by
  have h6 := hO.1
  intro d
  induction d with
  | zero =>
    intro n i acc hi hn
    cases n with
    | zero => omega
    | succ n =>
      rw [F_X7_total_L15, tD, hM 6 (by omega), lm_br, if_pos (nI_le (by omega) (by omega))]
      rfl
  | succ d ih =>
    intro n i acc hi hn
    cases n with
    | zero => omega
    | succ n =>
      have hk := (hO.2.2 i (by omega)).1
      rw [F_X7_total_L15, tD, hM 6 (by omega), lm_br, if_neg (nI_ge (by omega) (by omega)), ev_k57, ev_k2, ev_mul, ev_add, ev_k1, ev_add, ev_add, ev_gi (by omega) (by omega), ev_gi (by omega) (by omega), ev_cl (by omega), ev_cl (by omega), hM _ (by omega), hM _ (by omega), o_sum hM hR (by omega), lm_bd_some, lm_lt_eq, ev_mul, ev_add, ih n (i + 1) _ (by omega) (by omega), show 57 + 2 * i + 1 = 58 + 2 * i by omega, Nat.add_assoc]
theorem c_total_L {σ : Hp} (hC : Cn σ g) (hO : Rou g) : ∀ d n i acc, i + d = g 6 → d < n → F_X4_totalByAnswers_L4 n σ (nI acc) (nI i) = some (nI (acc + tD g d i)) := by
  obtain ⟨hT, hA, hY, hm⟩ := hC
  have h6 := hO.1
  have u1 : lm_sh 1 σ 0 2 = nI (g 6) := hT.2.1.1
  intro d
  induction d with
  | zero =>
    intro n i acc hi hn
    cases n with
    | zero => omega
    | succ n =>
      rw [F_X4_totalByAnswers_L4, tD, c_size, lm_bd_some, u1, lm_br, if_pos (nI_le (by omega) (by omega))]
      rfl
  | succ d ih =>
    intro n i acc hi hn
    cases n with
    | zero => omega
    | succ n =>
      have hk := (hO.2.2 i (by omega)).1
      obtain ⟨v1, v2⟩ := hT.2.1.2 i (by omega)
      have v1' : lm_sh 1 σ 1 i = nI (g (57 + 2 * i)) := v1
      have v2' : lm_sh 1 σ 2 i = nI (g (58 + 2 * i)) := v2
      have w1 : lm_sh 7 σ 2 (g (57 + 2 * i)) = nI (sm g (g (57 + 2 * i))) := (hA _ hk).2.1
      rw [F_X4_totalByAnswers_L4, tD, c_size, lm_bd_some, u1, lm_br, if_neg (nI_ge (by omega) (by omega)), c_value (by omega), lm_bd_some, c_key (by omega), lm_bd_some, v1', v2', c_sum hk, lm_bd_some, w1, ev_mul, ev_add, nI_1, ih n (i + 1) _ (by omega) (by omega), Nat.add_assoc]
theorem c_rows_L {σ : Hp} (hT : Ct σ g) (hR : Rin g) (hO : Rou g) {i : Nat} (hi : i < g 6) : ∀ d n j acc, j + d = g 5 → d < n → F_X4_totalByRows_L17 n σ (nI acc) (nI i) (nI j) = some (nI (acc + g (58 + 2 * i) * sD g (g (57 + 2 * i)) d j)) := by
  have h6 := hO.1
  obtain ⟨h5, h3, h4, hr⟩ := hR
  have i1 : lm_sh 4 σ 0 2 = nI (g 5) := hT.1.1
  have s3 : σ 15 3 = nI (g 3) := hT.2.2.2 3 (by omega)
  have s4 : σ 15 4 = nI (g 4) := hT.2.2.2 4 (by omega)
  obtain ⟨v1, v2⟩ := hT.2.1.2 i hi
  have v1' : lm_sh 1 σ 1 i = nI (g (57 + 2 * i)) := v1
  have v2' : lm_sh 1 σ 2 i = nI (g (58 + 2 * i)) := v2
  have hk := (hO.2.2 i hi).1
  intro d
  induction d with
  | zero =>
    intro n j acc hj hn
    cases n with
    | zero => omega
    | succ n =>
      rw [F_X4_totalByRows_L17, sD, c_size, lm_bd_some, i1, lm_br, if_pos (nI_le (by omega) (by omega))]
      rfl
  | succ d ih =>
    intro n j acc hj hn
    cases n with
    | zero => omega
    | succ n =>
      obtain ⟨w1, w2⟩ := hT.1.2 j (by omega)
      have w1' : lm_sh 4 σ 1 j = nI (g (17 + 2 * j)) := w1
      have w2' : lm_sh 4 σ 2 j = nI (g (18 + 2 * j)) := w2
      obtain ⟨r1, r2⟩ := hr j (by omega)
      have hb : F_X4_isInBand σ (nI (g (18 + 2 * j))) = some (if g 3 ≤ g (18 + 2 * j) ∧ g (18 + 2 * j) ≤ g 4 then nI 1 else nI 0) := by
        unfold F_X4_isInBand
        rw [s3, s4, lm_br]
        by_cases y1 : g 3 ≤ g (18 + 2 * j)
        · rw [if_neg (nI_nlt y1 (by omega)), lm_br]
          by_cases y2 : g (18 + 2 * j) ≤ g 4
          · rw [if_neg (nI_nlt y2 (by omega)), if_pos ⟨y1, y2⟩]
            rfl
          · rw [if_pos (nI_lt (by omega) (by omega)), if_neg (fun z => y2 z.2)]
            rfl
        · rw [if_pos (nI_lt (by omega) (by omega)), if_neg (fun z => y1 z.1)]
          rfl
      rw [F_X4_totalByRows_L17, sD, c_size, lm_bd_some, i1, lm_br, if_neg (nI_ge (by omega) (by omega)), c_key (by omega), lm_bd_some, c_key (by omega), lm_bd_some, w1', v1', lm_br]
      by_cases y0 : g (17 + 2 * j) = g (57 + 2 * i)
      · rw [if_neg (not_not_intro (by rw [y0])), c_value (by omega), lm_bd_some, w2', hb, lm_bd_some, lm_br]
        by_cases y1 : g 3 ≤ g (18 + 2 * j) ∧ g (18 + 2 * j) ≤ g 4
        · have hmt : mt g (g (57 + 2 * i)) j = true := by simp [mt, y0, y1]
          rw [if_pos y1, if_neg (by decide), if_pos hmt, c_value (by omega), lm_bd_some, lm_bd_some, v2', ev_mul, ev_add, nI_1, ih n (j + 1) _ (by omega) (by omega), Nat.mul_add, Nat.add_assoc]
        · have hmt : ¬ mt g (g (57 + 2 * i)) j = true := by
            simp only [mt, y0, Bool.and_eq_true, decide_eq_true_eq]
            exact fun z => y1 ⟨z.1.2, z.2⟩
          rw [if_neg y1, if_pos (by decide), if_neg hmt, nI_1, ih n (j + 1) _ (by omega) (by omega), Nat.zero_add]
      · have hmt : ¬ mt g (g (57 + 2 * i)) j = true := by
          simp only [mt, Bool.and_eq_true, decide_eq_true_eq]
          exact fun z => y0 z.1.1
        rw [if_pos (fun z => y0 ((nI_eq (by omega) (by omega)).mp z)), if_neg hmt, nI_1, ih n (j + 1) _ (by omega) (by omega), Nat.zero_add]
theorem c_rows {σ : Hp} (hC : Cn σ g) (hR : Rin g) (hO : Rou g) : ∀ d n i acc, i + d = g 6 → d < n → F_X4_totalByRows_L4 n σ (nI acc) (nI i) = some (nI (acc + tD g d i)) := by
  obtain ⟨hT, hA, hY, hm⟩ := hC
  have h6 := hO.1
  have h5 := hR.1
  have u1 : lm_sh 1 σ 0 2 = nI (g 6) := hT.2.1.1
  intro d
  induction d with
  | zero =>
    intro n i acc hi hn
    cases n with
    | zero => omega
    | succ n =>
      rw [F_X4_totalByRows_L4, tD, c_size, lm_bd_some, u1, lm_br, if_pos (nI_le (by omega) (by omega))]
      rfl
  | succ d ih =>
    intro n i acc hi hn
    cases n with
    | zero => omega
    | succ n =>
      rw [F_X4_totalByRows_L4, tD, c_size, lm_bd_some, u1, lm_br, if_neg (nI_ge (by omega) (by omega)), ev_k0, c_rows_L hT hR hO (i := i) (by omega) (g 5) 1000 0 acc (by omega) (by omega), lm_bd_some, nI_1, ih n (i + 1) _ (by omega) (by omega), Nat.add_assoc]
      rfl
theorem q_total {t c : Nat} {h : Nat → Hp} (hR : R0 t c h μ) (x1 : Int32) : ∃ r, F_X6_total h x1 = some r ∧ F_X7_total μ x1 = some r := by
  obtain ⟨g, p, n, H, hC, hM, hI, hH, hHs, hIH, h6⟩ := hR
  have b6 := hI.2.1.1
  have z1 := o_total_L hM hI.1 hI.2.1 (g 6) 1000 0 0 (by omega) (by omega)
  have z2 := c_total_L hC hI.2.1 (g 6) 1000 0 0 (by omega) (by omega)
  have z3 := c_rows hC hI.1 hI.2.1 (g 6) 1000 0 0 (by omega) (by omega)
  rw [show nI 0 = (0 : Int32) from rfl] at z1 z2 z3
  rcases raw_in x1 (m := 1) (by omega) with ⟨b1, -⟩ | ⟨b1, -⟩
  · have b1' : F_X7_in x1 0 1 = some 0 := b1
    refine ⟨-1, ?_, ?_⟩
    · unfold F_X6_total
      rw [within_in, b1', lm_bd_some, lm_br, if_neg (by decide)]
    · unfold F_X7_total
      rw [b1', lm_bd_some, lm_br, if_neg (by decide)]
  · have b1' : F_X7_in x1 0 1 = some 1 := b1
    refine ⟨nI (0 + tD g (g 6) 0), ?_, ?_⟩
    · unfold F_X6_total F_X4_totalByAnswers F_X4_totalByRows
      rw [within_in, b1', lm_bd_some, lm_br, if_pos (by decide), z2, z3, lm_bd_some, lm_br, ite_self]
    · unfold F_X7_total
      rw [b1', lm_bd_some, lm_br, if_pos (by decide), z1]
end TQ2
