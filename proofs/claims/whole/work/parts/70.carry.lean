/-! deeds out of the pad, on both sides -/
section PC1
section OPS
variable {σ μ : Hp} {g : Nat → Nat} {t c : Nat}
theorem op_add (hC : Cn σ g) (hM : Mo μ g) (hI : In t c g) (c1 : F_X7_changes μ = some μ) (x2 x3 : Int32) : ∃ r σ' μ' g', F_X4_insertRow σ 1 x2 x3 = some (r, σ') ∧ F_X7_add μ 1 x2 x3 = some (r, μ') ∧ Cn σ' g' ∧ Mo μ' g' ∧ In t c g' ∧ Fr μ μ' := by
  have q1 : ¬ (1 : Int32) = 0 := by decide
  rcases raw_row x2 x3 with ⟨r1, r2⟩ | ⟨⟨r1, r2⟩, k, v, hk, hv, e2, e3⟩
  · refine ⟨-1, σ, μ, g, ?_, ?_, hC, hM, hI, Fr.rf⟩
    · unfold F_X4_insertRow
      rw [r2, lm_bd_some, lm_br, if_neg (by decide)]
    · unfold F_X7_add
      rw [r1, lm_bd_some, lm_br, if_neg (by decide)]
  · subst e2
    subst e3
    by_cases q5 : g 5 = 20
    · refine ⟨-3, σ, μ, g, c_insFull1 hC q5 q1 hk hv, ?_, hC, hM, hI, Fr.rf⟩
      unfold F_X7_add
      rw [r1, lm_bd_some, lm_br, if_pos (by decide), lm_br, if_neg q1, lm_br, hM 5 (by omega), q5, if_neg (by decide)]
    · have l5 : g 5 < 20 := by have := hI.1.1; omega
      obtain ⟨μ', a1, a2, a3⟩ := o_adds1 hM hI l5 q1 hk hv
      obtain ⟨σ', b1, b2⟩ := c_ins1 hC hI q1 hk hv l5
      refine ⟨_, σ', μ', _, b1, ?_, b2, a2, kp_In (adI_In hI hk hv l5) k k, a3⟩
      unfold F_X7_add
      rw [r1, lm_bd_some, lm_br, if_pos (by decide), lm_br, if_neg q1, lm_br, hM 5 (by omega), if_pos (show ¬ nI (g 5) = (20 : Int32) from fun z => q5 ((nI_eq (b := 20) (by omega) (by omega)).mp z)), c1, lm_bd_some, a1, lm_b2_some]
theorem op_drop (hC : Cn σ g) (hM : Mo μ g) (hI : In t c g) (c1 : F_X7_changes μ = some μ) (x2 : Int32) : ∃ r σ' μ' g', F_X4_removeRow σ 1 x2 = some (r, σ') ∧ F_X7_drop μ 1 x2 = some (r, μ') ∧ Cn σ' g' ∧ Mo μ' g' ∧ In t c g' ∧ Fr μ μ' := by
  have q1 : ¬ (1 : Int32) = 0 := by decide
  have i1 : lm_sh 4 σ 0 2 = nI (g 5) := hC.1.1.1
  rcases raw_inner hM hI.1.1 x2 with ⟨a1, a2⟩ | ⟨a1, k, a2, a3⟩
  · have b1 : F_X5_has (lm_sh 4 σ) x2 = some 0 := by
      rcases raw_has i1 hI.1.1 x2 with ⟨b1, -⟩ | ⟨-, k, b2, b3⟩
      · exact b1
      · exact absurd b3 (a2 k b2)
    refine ⟨-1, σ, μ, g, ?_, ?_, hC, hM, hI, Fr.rf⟩
    · unfold F_X4_removeRow
      rw [lm_br, if_neg q1, b1, lm_bd_some, lm_br, if_neg (by decide)]
    · unfold F_X7_drop
      rw [lm_br, if_neg q1, a1, lm_bd_some, lm_br, if_neg (by decide)]
  · subst a3
    obtain ⟨μ', d1, d2, d3⟩ := o_drop1 hM c1 hM hI q1 a2
    obtain ⟨σ', b1, b2⟩ := c_rem1 hC hI q1 a2
    exact ⟨_, σ', μ', _, b1, d1, b2, d2, kp_In (drI_In hI a2) _ _, d3⟩
theorem op_again (hC : Cn σ g) (hM : Mo μ g) (hI : In t c g) (c1 : F_X7_changes μ = some μ) : ∃ r σ' μ' g', F_X4_beginAgain σ = some (r, σ') ∧ F_X7_again μ = some (r, μ') ∧ Cn σ' g' ∧ Mo μ' g' ∧ In t c g' ∧ Fr μ μ' := by
  obtain ⟨μ', d1, d2, d3⟩ := o_again c1 hM
  obtain ⟨σ', b1, b2⟩ := c_again hC hI
  exact ⟨_, σ', μ', _, b1, d1, b2, d2, agG_In hI, d3⟩
theorem op_step (hc : c + 20 ≤ 1000000) (hC : Cn σ g) (hM : Mo μ g) (hI : In t c g) (c1 : F_X7_changes μ = some μ) (x1 : Int32) : ∃ r σ' μ' g', F_X4_walk σ x1 = some (r, σ') ∧ F_X7_step μ x1 = some (r, μ') ∧ Cn σ' g' ∧ Mo μ' g' ∧ In t (c + 20) g' ∧ Fr μ μ' := by
  have b6 := hI.2.1.1
  have b7 := hI.2.1.2.1
  have hI' : In t (c + 20) g := In_mono hI (Nat.le_refl _) (by omega) hI.2.2.2.2.2.2.1 hc
  rcases raw_step x1 with ⟨a1, a2⟩ | ⟨a1, a2, a3⟩ | ⟨k, a1, a2, a3, a4⟩
  · refine ⟨-1, σ, μ, g, ?_, ?_, hC, hM, hI', Fr.rf⟩
    · unfold F_X4_walk
      rw [lm_br, if_pos a1]
    · unfold F_X7_step
      rw [a2, lm_bd_some, lm_br, if_neg (by decide)]
  · refine ⟨-1, σ, μ, g, ?_, ?_, hC, hM, hI', Fr.rf⟩
    · unfold F_X4_walk
      rw [lm_br, if_neg a1, lm_br, if_neg a2]
    · unfold F_X7_step
      rw [a3, lm_bd_some, lm_br, if_neg (by decide)]
  · subst a3
    by_cases q : g 7 = g 6
    · have u1 : lm_sh 1 σ 0 2 = nI (g 6) := hC.1.2.1.1
      have p1 : σ 0 6 = nI (g 7) := hC.1.2.2.1.1
      refine ⟨-2, σ, μ, g, ?_, ?_, hC, hM, hI', Fr.rf⟩
      · unfold F_X4_walk
        rw [lm_br, if_neg (show ¬ nI k < 1 from nI_nlt (a := k) (b := 1) a1 (by omega)), lm_br, if_pos (show nI k ≤ 20 from nI_le (a := k) (b := 20) a2 (by omega)), c_size, lm_bd_some, u1, p1, lm_br, if_neg (nI_nlt (by omega) (by omega))]
      · unfold F_X7_step
        rw [a4, lm_bd_some, lm_br, if_pos (by decide), lm_br, hM 7 (by omega), hM 6 (by omega), if_neg (not_not_intro (by rw [q]))]
    · obtain ⟨μ', d1, d2, d3⟩ := o_steps hM hI a2 (by omega)
      have hJ := stp_In hI (n := k) (by omega)
      obtain ⟨σ', b1, b2⟩ := c_walk hC hI a1 a2 (by omega) (by omega)
      refine ⟨_, σ', μ', _, b1, ?_, b2, d2, In_mono hJ (Nat.le_refl t) (show c + k ≤ c + 20 by omega) hI.2.2.2.2.2.2.1 hc, d3⟩
      unfold F_X7_step
      rw [a4, lm_bd_some, lm_br, if_pos (by decide), lm_br, hM 7 (by omega), hM 6 (by omega), if_pos (fun z => q ((nI_eq (by omega) (by omega)).mp z)), c1, lm_bd_some, d1, lm_b2_some]
end OPS
variable {C : Nat → Nat} {n : Nat}
theorem changes_no {μ : Hp} (h : μ 0 6 = 1) : F_X7_changes μ = some μ := by
  unfold F_X7_changes
  rw [lm_br, if_neg (show ¬ μ 0 6 = 0 by rw [h]; decide)]
/-- one deed, on both sides -/
theorem deed_1 {i t c : Nat} (hc : c + 20 ≤ 1000000) (hi : i ≤ 30) {h : Nat → Hp} {μ τ : Hp} {g : Nat → Nat} (hC : Cn (h 0) g) (hM : Mo μ g) (hI : In t c g) (h6 : μ 0 6 = 1) {a : Nat} (ok : dOk C a) (hx : C a < 127) (v : VA C true a (fun j => τ 0 (6 + j))) (v' : VA C true a (fun j => μ 7 (4 * i + j))) (h8 : lm_sh 1 (h 8) 0 = τ 0) : ∃ r σ' μ' g', F_X6_obey h = some (r, lm_uB h 0 σ') ∧ F_X7_does μ (nI i) = some (r, μ') ∧ Cn σ' g' ∧ Mo μ' g' ∧ In t (c + 20) g' ∧ Fr μ μ' := by
  have c1 := changes_no h6
  have mono : ∀ {g'}, In t c g' → In t (c + 20) g' := fun z => In_mono z (Nat.le_refl _) (by omega) hI.2.2.2.2.2.2.1 hc
  have v6 : τ 0 6 = nI (C a) ∧ (C a ≠ 114 → τ 0 7 = nI (d1 C a)) ∧ (C a = 43 → τ 0 8 = nI (rV C (a + 1))) := by
    unfold VA at v
    rw [if_pos rfl] at v
    exact v
  have w6 : μ 7 (4 * i) = nI (C a) ∧ (C a ≠ 114 → μ 7 (4 * i + 1) = nI (d1 C a)) ∧ (C a = 43 → μ 7 (4 * i + 2) = nI (rV C (a + 1))) := by
    unfold VA at v'
    rw [if_pos rfl] at v'
    exact v'
  have es : F_X3_sign (lm_sh 1 (h 8)) = some (nI (C a)) := by
    unfold F_X3_sign
    rw [h8, v6.1]
  have e1 : F_X3_first (lm_sh 1 (h 8)) = some (τ 0 7) := by
    unfold F_X3_first
    rw [h8]
  have e2 : F_X3_second (lm_sh 1 (h 8)) = some (τ 0 8) := by
    unfold F_X3_second
    rw [h8]
  unfold F_X6_obey F_X7_does
  rw [es, lm_bd_some, ev_k4, ev_mul, ev_k1, ev_k2, ev_add, ev_add, ev_gi (by omega) (by omega), lm_lt_eq, ev_gi (by omega) (by omega), ev_gi (by omega) (by omega), ev_cl (by omega), ev_cl (by omega), ev_cl (by omega), w6.1, ev_k43, ev_k45, ev_k115]
  by_cases q1 : C a = 43
  · rw [brT (show nI (C a) = nI 43 by rw [q1]), brT (show nI (C a) = nI 43 by rw [q1]), e1, e2, lm_bd_some, lm_bd_some, v6.2.1 (by omega), v6.2.2 q1, w6.2.1 (by omega), w6.2.2 q1]
    obtain ⟨r, σ', μ', g', a1, a2, a3, a4, a5, a6⟩ := op_add hC hM hI c1 (nI (d1 C a)) (nI (rV C (a + 1)))
    have a1' : F_X4_insertRow (h 0) (nI 1) (nI (d1 C a)) (nI (rV C (a + 1))) = _ := a1
    have a2' : F_X7_add μ (nI 1) (nI (d1 C a)) (nI (rV C (a + 1))) = _ := a2
    refine ⟨r, σ', μ', g', ?_, ?_, a3, a4, mono a5, a6⟩
    · rw [a1', lm_b2_some, lm_lt_eq]
    · rw [a2', lm_b2_some]
  · have n1 : ¬ nI (C a) = nI 43 := fun z => q1 ((e_eq hx (by omega)).mp z)
    rw [brF n1, brF n1]
    by_cases q2 : C a = 45
    · rw [brT (show nI (C a) = nI 45 by rw [q2]), brT (show nI (C a) = nI 45 by rw [q2]), e1, lm_bd_some, v6.2.1 (by omega), w6.2.1 (by omega)]
      obtain ⟨r, σ', μ', g', a1, a2, a3, a4, a5, a6⟩ := op_drop hC hM hI c1 (nI (d1 C a))
      have a1' : F_X4_removeRow (h 0) (nI 1) (nI (d1 C a)) = _ := a1
      have a2' : F_X7_drop μ (nI 1) (nI (d1 C a)) = _ := a2
      refine ⟨r, σ', μ', g', ?_, ?_, a3, a4, mono a5, a6⟩
      · rw [a1', lm_b2_some, lm_lt_eq]
      · rw [a2', lm_b2_some]
    · have n2 : ¬ nI (C a) = nI 45 := fun z => q2 ((e_eq hx (by omega)).mp z)
      rw [brF n2, brF n2]
      by_cases q3 : C a = 115
      · rw [brT (show nI (C a) = nI 115 by rw [q3]), brT (show nI (C a) = nI 115 by rw [q3]), e1, lm_bd_some, v6.2.1 (by omega), w6.2.1 (by omega)]
        obtain ⟨r, σ', μ', g', a1, a2, a3, a4, a5, a6⟩ := op_step hc hC hM hI c1 (nI (d1 C a))
        refine ⟨r, σ', μ', g', ?_, ?_, a3, a4, a5, a6⟩
        · rw [a1, lm_b2_some, lm_lt_eq]
        · rw [a2, lm_b2_some]
      · have n3 : ¬ nI (C a) = nI 115 := fun z => q3 ((e_eq hx (by omega)).mp z)
        rw [brF n3, brF n3]
        obtain ⟨r, σ', μ', g', a1, a2, a3, a4, a5, a6⟩ := op_again hC hM hI c1
        refine ⟨r, σ', μ', g', ?_, ?_, a3, a4, mono a5, a6⟩
        · rw [a1, lm_b2_some, lm_lt_eq]
        · rw [a2, lm_b2_some]
/-- the class's last steps of carrying out -/
def ctl (h : Nat → Hp) (x2 : Int32) : Option (Int32 × (Nat → Hp)) :=
  lm_lt (lm_uB h 8 (lm_u (h 8) 0 7 x2)) fun h11 =>
  lm_bd (F_X3_start (lm_sh 1 (h11 8))) fun r12 =>
  lm_lt (lm_uB h11 8 (lm_u (h11 8) 0 8 r12)) fun h13 =>
  lm_b2 (F_X3_empty (lm_sh 1 (h13 8))) fun r16 τ14 =>
  lm_lt (lm_uB h13 8 (lm_sb (h13 8) 1 2 τ14)) fun h15 =>
  lm_b2 (F_X1_commit h15 x2) fun r18 h17 =>
  some (r18, h17)
/-- what carrying out leaves alone -/
def Fj (h h' : Nat → Hp) (μ μ' : Hp) : Prop := (∀ b, b ≠ 0 → b ≠ 8 → h' b = h b) ∧ (∀ c, c ≠ 0 → c ≠ 1 → c ≠ 2 → h' 8 c = h 8 c) ∧ (∀ j, j ≠ 6 → h' 8 0 j = h 8 0 j) ∧ (∀ j, j ≠ 9 → μ' 0 j = μ 0 j) ∧ (∀ c, c ≠ 0 → c ≠ 1 → c ≠ 6 → μ' c = μ c)
theorem Fj.rf {h : Nat → Hp} {μ : Hp} : Fj h h μ μ := ⟨fun _ _ _ => rfl, fun _ _ _ _ => rfl, fun _ _ => rfl, fun _ _ => rfl, fun _ _ _ _ => rfl⟩
theorem Fj.trans {h h' h'' : Nat → Hp} {μ μ' μ'' : Hp} (a : Fj h h' μ μ') (b : Fj h' h'' μ' μ'') : Fj h h'' μ μ'' := ⟨fun x p q => (b.1 x p q).trans (a.1 x p q), fun x p q r => (b.2.1 x p q r).trans (a.2.1 x p q r), fun x p => (b.2.2.1 x p).trans (a.2.2.1 x p), fun x p => (b.2.2.2.1 x p).trans (a.2.2.2.1 x p), fun x p q r => (b.2.2.2.2 x p q r).trans (a.2.2.2.2 x p q r)⟩
/-- how carrying out may end -/
def Ed (h : Nat → Hp) (μ : Hp) (N : Nat) : Prop := (μ 0 9 = 0 ∧ h 8 0 6 = 0) ∨ (μ 0 9 = 1 ∧ ¬ h 8 0 6 = 0 ∧ h 8 0 6 = μ 6 0 ∧ nI N = μ 6 1 ∧ h 8 1 5 = μ 6 2)
theorem carry_1 {K i t c m m' : Nat} (hc : c + 20 ≤ 1000000) {h : Nat → Hp} {μ : Hp} {g : Nat → Nat} (hS : FI C n true K i t c h μ g) (hF : Fl C true n K) (hi : i < K) (h6 : μ 0 6 = 1) (hs : h 8 0 6 = 0) (h9 : μ 0 9 = 0) : (∃ h' μ' g', F_X6_carryOut_L50 (m + 2) h (nI K) (nI i) = ctl h' (nI i) ∧ F_X7_carryOut_L34 (m' + 2) μ (nI i) = some (nI i, lm_u μ' 0 6 0) ∧ Cn (h' 0) g' ∧ Mo μ' g' ∧ In t (c + 20) g' ∧ Fj h h' μ μ' ∧ Ed h' μ' i) ∨ (∃ h' μ' g', F_X6_carryOut_L50 (m + 2) h (nI K) (nI i) = F_X6_carryOut_L50 (m + 1) h' (nI K) (nI (i + 1)) ∧ F_X7_carryOut_L34 (m' + 2) μ (nI i) = F_X7_carryOut_L34 (m' + 1) μ' (nI (i + 1)) ∧ FI C n true K (i + 1) t (c + 20) h' μ' g' ∧ μ' 0 6 = 1 ∧ h' 8 0 6 = 0 ∧ μ' 0 9 = 0 ∧ Fj h h' μ μ') := by
  obtain ⟨τ, k1, k2, k3, k4, k5, k6, k7, k8⟩ := FI_next hS hF hi
  obtain ⟨hC, hM, hI, hP, c2, c3, hD, o12⟩ := hS
  have hK := hF.2.1
  have ok : dOk C (pos C true i) := iOk_d.mp (hF.2.2.2 i hi).1
  have hv3 : μ 7 (4 * i + 3) = nI (pos C true i) := (hD i hi).2 rfl
  obtain ⟨h29, hh⟩ : ∃ h29, h29 = lm_uB h 8 (lm_sb (h 8) 1 2 τ) := ⟨_, rfl⟩
  have z8 : h29 8 = lm_sb (h 8) 1 2 τ := by rw [hh, uB_same]
  have zb : ∀ b, b ≠ 8 → h29 b = h b := fun b hb => by rw [hh, uB_ne _ _ hb]
  obtain ⟨r, σ', μ1, g', a1, a2, a3, a4, a5, a6⟩ := deed_1 (h := h29) (μ := μ) (τ := τ) hc (by omega) (by rw [zb 0 (by omega)]; exact hC) hM hI h6 ok (hP.lt _) k6 k7 (by rw [z8, sb1_0])
  obtain ⟨p1, p2, p3⟩ := pad_put (h 8) k2 k3 k4
  obtain ⟨e, he⟩ : ∃ e, e = (if r < (0 : Int32) then r else (0 : Int32)) := ⟨_, rfl⟩
  obtain ⟨h42, hh42⟩ : ∃ h42, h42 = lm_uB (lm_uB h29 0 σ') 8 (lm_u (h29 8) 0 6 e) := ⟨_, rfl⟩
  have y8 : h42 8 = lm_u (h29 8) 0 6 e := by rw [hh42, uB_same]
  have y0 : h42 0 = σ' := by rw [hh42, uB_ne _ _ (by omega), uB_same]
  have yb : ∀ b, b ≠ 0 → b ≠ 8 → h42 b = h b := fun b b0 b8 => by rw [hh42, uB_ne _ _ b8, uB_ne _ _ b0, zb b b8]
  have ye : h42 8 0 6 = e := by rw [y8, lu_same]
  have y1 : h42 8 1 = τ 0 := by
    rw [y8, lu_c _ _ _ (by omega), z8]
    exact sb1_0 _ _
  have yc : ∀ d, d ≠ 0 → h42 8 d = lm_sb (h 8) 1 2 τ d := fun d hd => by rw [y8, lu_c _ _ _ hd, z8]
  have eC : F_X6_carryOut_L50 (m + 2) h (nI K) (nI i) = lm_br (¬ e = 0) (F_X6_carryOut_L50 (m + 1) h42 (nI K) (nI i)) (F_X6_carryOut_L50 (m + 1) h42 (nI K) (nI (i + 1))) := by
    rw [show m + 2 = m + 1 + 1 from rfl, F_X6_carryOut_L50, brF (nI_ge hi (by omega)), brF (not_not_intro hs), k1, lm_b2_some, lm_lt_eq, brF (by decide), ← hh, a1, lm_b2_some, lm_lt_eq, uB_ne h29 (c := 0) (d := 8) σ' (by omega), ← he, ← hh42, ye, nI_1]
  have eO : F_X7_carryOut_L34 (m' + 2) μ (nI i) = lm_br (0 ≤ r) (F_X7_carryOut_L34 (m' + 1) (lm_u (lm_u (lm_u (lm_u μ1 0 9 0) 6 0 r) 6 1 (nI i)) 6 2 (nI (pos C true i))) (nI (i + 1))) (F_X7_carryOut_L34 (m' + 1) (lm_u (lm_u (lm_u (lm_u μ1 0 9 1) 6 0 r) 6 1 (nI i)) 6 2 (nI (pos C true i))) (nI i)) := by
    have m7 : ∀ x y z, lm_u (lm_u (lm_u μ1 0 9 x) 6 0 y) 6 1 z 7 (4 * i + 3) = nI (pos C true i) := fun x y z => by rw [lu_c _ _ _ (by omega), lu_c _ _ _ (by omega), lu_c _ _ _ (by omega), a6 7 (by omega), hv3]
    have m9 : ∀ x y z w, lm_u (lm_u (lm_u (lm_u μ1 0 9 x) 6 0 y) 6 1 z) 6 2 w 0 9 = x := fun x y z w => by rw [lu_c _ _ _ (by omega), lu_c _ _ _ (by omega), lu_c _ _ _ (by omega), lu_same]
    rw [show m' + 2 = m' + 1 + 1 from rfl, F_X7_carryOut_L34, o12, brF (nI_ge hi (by omega)), brF (not_not_intro h9), a2, lm_b2_some, lm_lt_eq, lm_lt_eq, lm_lt_eq, lm_lt_eq, lm_lt_eq, lm_lt_eq, ev_k4, ev_mul, ev_k3, ev_add, ev_gi (by omega) (by omega), ev_cl (by omega), lm_lt_eq, lm_lt_eq, m7, m7, m9, m9, brT rfl, brF (c := (1 : Int32) = 0) (by decide), nI_1, Int32.add_zero, ev_gi (by omega) (by omega)]
  have fr : ∀ x y z w, Fj h h42 μ (lm_u (lm_u (lm_u (lm_u μ1 0 9 x) 6 0 y) 6 1 z) 6 2 w) := fun x y z w => by
    refine ⟨yb, fun d d0 d1 d2 => by rw [yc d d0, sb1_o _ _ d1 d2], fun j hj => by rw [y8, lu_ne _ _ hj, z8, sb1_o _ _ (by omega) (by omega)], fun j hj => ?_, fun d d0 d1 d6 => ?_⟩
    · rw [lu_c _ _ _ (by omega), lu_c _ _ _ (by omega), lu_c _ _ _ (by omega), lu_ne _ _ hj, a6 0 (by omega)]
    · rw [lu_c _ _ _ d6, lu_c _ _ _ d6, lu_c _ _ _ d6, lu_c _ _ _ d0, a6 d d1]
  have mo : ∀ x y z w, Mo (lm_u (lm_u (lm_u (lm_u μ1 0 9 x) 6 0 y) 6 1 z) 6 2 w) g' := fun x y z w j hj => by
    rw [lu_c _ _ _ (by omega), lu_c _ _ _ (by omega), lu_c _ _ _ (by omega), lu_c _ _ _ (by omega)]
    exact a4 j hj
  by_cases q : r < 0
  · left
    have er : e = r := by rw [he, if_pos q]
    have e0 : ¬ r = 0 := fun z => by rw [z] at q; exact absurd q (by decide)
    rw [eC, eO, er, brT e0, brF (show ¬ 0 ≤ r from Int32.not_le.mpr q)]
    refine ⟨h42, _, g', ?_, ?_, by rw [y0]; exact a3, mo 1 r (nI i) (nI (pos C true i)), a5, fr _ _ _ _, Or.inr ⟨?_, ?_, ?_, ?_, ?_⟩⟩
    · rw [F_X6_carryOut_L50, brF (nI_ge hi (by omega)), brT (show ¬ h42 8 0 6 = 0 by rw [ye, er]; exact e0)]
      rfl
    · rw [F_X7_carryOut_L34, brF (show ¬ lm_u (lm_u (lm_u (lm_u μ1 0 9 1) 6 0 r) 6 1 (nI i)) 6 2 (nI (pos C true i)) 0 12 ≤ nI i by
        rw [lu_c _ _ _ (by omega), lu_c _ _ _ (by omega), lu_c _ _ _ (by omega), lu_ne _ _ (by omega), a6 0 (by omega), o12]
        exact nI_ge hi (by omega)), brT (show ¬ lm_u (lm_u (lm_u (lm_u μ1 0 9 1) 6 0 r) 6 1 (nI i)) 6 2 (nI (pos C true i)) 0 9 = 0 by
        rw [lu_c _ _ _ (by omega), lu_c _ _ _ (by omega), lu_c _ _ _ (by omega), lu_same]
        decide), lm_lt_eq]
    · rw [lu_c _ _ _ (by omega), lu_c _ _ _ (by omega), lu_c _ _ _ (by omega), lu_same]
    · rw [ye, er]; exact e0
    · rw [ye, er, lu_ne _ _ (by omega), lu_ne _ _ (by omega), lu_same]
    · rw [lu_ne _ _ (by omega), lu_same]
    · rw [lu_same, y1, k5]
  · right
    have er : e = 0 := by rw [he, if_neg q]
    rw [eC, eO, er, brF (not_not_intro rfl), brT (show 0 ≤ r from Int32.not_lt.mp q)]
    refine ⟨h42, _, g', rfl, rfl, ⟨by rw [y0]; exact a3, mo 0 r (nI i) (nI (pos C true i)), a5, ?_, ?_, ?_, RD_Fr hD ?_, ?_⟩, ?_, by rw [ye, er], ?_, fr _ _ _ _⟩
    · exact p1.of (show h42 8 (1 + 0) 1 = _ by rw [yc _ (by omega)]; rfl) (show h42 8 (1 + 1) = _ by rw [yc _ (by omega)]; rfl)
    · rw [y1]; exact k3
    · rw [y1]; exact k4
    · rw [lu_c _ _ _ (by omega), lu_c _ _ _ (by omega), lu_c _ _ _ (by omega), lu_c _ _ _ (by omega), a6 7 (by omega)]
    · rw [lu_c _ _ _ (by omega), lu_c _ _ _ (by omega), lu_c _ _ _ (by omega), lu_ne _ _ (by omega), a6 0 (by omega)]
      exact o12
    · rw [lu_c _ _ _ (by omega), lu_c _ _ _ (by omega), lu_c _ _ _ (by omega), lu_ne _ _ (by omega), a6 0 (by omega)]
      exact h6
    · rw [lu_c _ _ _ (by omega), lu_c _ _ _ (by omega), lu_c _ _ _ (by omega), lu_same]
theorem carry_L {K t : Nat} (hF : Fl C true n K) : ∀ d i c m m' (h : Nat → Hp) (μ : Hp) (g : Nat → Nat), i + d = K → d + 1 < m → d + 1 < m' → c + 20 * d ≤ 1000000 → FI C n true K i t c h μ g → μ 0 6 = 1 → h 8 0 6 = 0 → μ 0 9 = 0 → ∃ N h' μ' g', N ≤ K ∧ F_X6_carryOut_L50 m h (nI K) (nI i) = ctl h' (nI N) ∧ F_X7_carryOut_L34 m' μ (nI i) = some (nI N, lm_u μ' 0 6 0) ∧ Cn (h' 0) g' ∧ Mo μ' g' ∧ In t (c + 20 * d) g' ∧ Fj h h' μ μ' ∧ Ed h' μ' N := by
  intro d
  induction d with
  | zero =>
    intro i c m m' h μ g hi hm hm' hc hS h6 hs h9
    obtain ⟨y, hy⟩ : ∃ y, m = y + 1 := ⟨m - 1, by omega⟩
    obtain ⟨y', hy'⟩ : ∃ y, m' = y + 1 := ⟨m' - 1, by omega⟩
    have e : i = K := by omega
    subst hy
    subst hy'
    subst e
    obtain ⟨hC, hM, hI, hP, c2, c3, hD, o12⟩ := hS
    have := hF.2.1
    refine ⟨i, h, μ, g, Nat.le_refl _, ?_, ?_, hC, hM, hI, Fj.rf, Or.inl ⟨h9, hs⟩⟩
    · rw [F_X6_carryOut_L50, brT (nI_le (Nat.le_refl _) (by omega))]
      rfl
    · rw [F_X7_carryOut_L34, o12, brT (nI_le (Nat.le_refl _) (by omega)), lm_lt_eq]
  | succ d ih =>
    intro i c m m' h μ g hi hm hm' hc hS h6 hs h9
    obtain ⟨y, hy⟩ : ∃ y, m = y + 2 := ⟨m - 2, by omega⟩
    obtain ⟨y', hy'⟩ : ∃ y, m' = y + 2 := ⟨m' - 2, by omega⟩
    subst hy
    subst hy'
    have bt := hS.2.2.1.2.2.2.2.2.2.1
    rcases carry_1 (m := y) (m' := y') (by omega) hS hF (by omega) h6 hs h9 with ⟨h', μ', g', a1, a2, a3, a4, a5, a6, a7⟩ | ⟨h', μ', g', a1, a2, a3, a4, a5, a6, a7⟩
    · exact ⟨i, h', μ', g', by omega, a1, a2, a3, a4, In_mono a5 (Nat.le_refl _) (by omega) bt (by omega), a6, a7⟩
    · obtain ⟨N, h2, μ2, g2, b0, b1, b2, b3, b4, b5, b6, b7⟩ := ih (i + 1) (c + 20) (y + 1) (y' + 1) h' μ' g' (by omega) (by omega) (by omega) (by omega) a3 a4 a5 a6
      exact ⟨N, h2, μ2, g2, b0, a1.trans b1, a2.trans b2, b3, b4, In_mono b5 (Nat.le_refl _) (by omega) bt (by omega), a7.trans b6, b7⟩
theorem tp_carryOut {t c : Nat} (hc : c + 600 ≤ 1000000) {h : Nat → Hp} {μ : Hp} (hR : RR t c h μ) : ∃ r h' μ', F_X6_carryOut h = some (r, h') ∧ F_X7_carryOut μ = some (r, μ') ∧ RR t (c + 600) h' μ' := by
  obtain ⟨r, τ', μ1, C, n, i1, i2, hR2, hFa, hP', hQ', w2, hK⟩ := pad_fault hR true
  have i1' : F_X3_findFault (lm_sh 1 (h 8)) 1 = _ := i1
  have i2' : F_X7_fault μ 1 = _ := i2
  obtain ⟨h2, hh2⟩ : ∃ h2, h2 = lm_uB h 8 (lm_sb (h 8) 1 2 τ') := ⟨_, rfl⟩
  have e8 : h2 8 = lm_sb (h 8) 1 2 τ' := by rw [hh2, uB_same]
  unfold F_X6_carryOut F_X7_carryOut
  rw [i1', i2', lm_b2_some, lm_b2_some, lm_lt_eq, ← hh2]
  rw [← hh2] at hR2
  have bt : t ≤ 1000 := by
    obtain ⟨g, p, N, H, hC, hM, hI, hH, hHs, hIH, h6⟩ := hR.1
    exact hI.2.2.2.2.2.2.1
  by_cases q : r = -4
  · obtain ⟨K, k1, k2, k3, k4⟩ := hK q
    obtain ⟨g, p, N, H, hC, hM, hI, hH, hHs, hIH, h6⟩ := id hR2.1
    have hit : F_X3_items (lm_sh 1 (h2 8)) = some (nI K) := by
      unfold F_X3_items
      rw [e8, sb1_0, k1]
    have K30 := k4.2.1
    rw [brT q, brT q, hit, lm_bd_some]
    obtain ⟨h9, p1, p2, p3, p4⟩ := c_prepare hC hI hH
    obtain ⟨μ4, c1, c2, c3, c4, c5⟩ := o_changes hM hHs h6
    have hp := hH.2.2.1
    have z8 : h9 8 = h2 8 := p4 8 (by omega)
    have hop : F_X3_open (lm_sh 1 (h9 8)) 1 = some (lm_u (lm_u (lm_sh 1 (h9 8)) 0 2 1) 0 3 0) := by
      unfold F_X3_open
      rw [lm_gd, if_pos (Or.inr rfl), lm_lt_eq, lm_lt_eq]
    have P9 : CP (lm_sh 1 (h9 8)) C n := by
      rw [z8, e8]
      exact hP'.of (by rw [sb1_0]) (sb1_1 _ _)
    obtain ⟨y1, y2, y3⟩ := pad_put (w := true) (i := 0) (h9 8) ((P9.u (i := 2) (by omega) 1).u (i := 3) (by omega) 0) (by rw [lu_ne _ _ (by omega), lu_same]; rfl) (lu_same _ _ _ _)
    obtain ⟨ρ, hρ⟩ : ∃ ρ, ρ = lm_sb (h9 8) 1 2 (lm_u (lm_u (lm_sh 1 (h9 8)) 0 2 1) 0 3 0) := ⟨_, rfl⟩
    rw [← hρ] at y1 y2 y3
    obtain ⟨h10, hh⟩ : ∃ h10, h10 = lm_uB (lm_uB h9 8 ρ) 8 (lm_u ρ 0 6 0) := ⟨_, rfl⟩
    have z10 : h10 8 = lm_u ρ 0 6 0 := by rw [hh, uB_same]
    have zb : ∀ b, b ≠ 8 → h10 b = h9 b := fun b hb => by rw [hh, uB_ne _ _ hb, uB_ne _ _ hb]
    have zc : ∀ d, d ≠ 0 → h10 8 d = ρ d := fun d hd => by rw [z10, lu_c _ _ _ hd]
    obtain ⟨μ7, hμ7⟩ : ∃ μ7, μ7 = lm_u (lm_u (lm_u μ4 0 8 0) 0 6 1) 0 9 0 := ⟨_, rfl⟩
    have n7 : ∀ d, d ≠ 0 → μ7 d = μ4 d := fun d hd => by rw [hμ7, lu_c _ _ _ hd, lu_c _ _ _ hd, lu_c _ _ _ hd]
    have n7j : ∀ j, j ≠ 8 → j ≠ 6 → j ≠ 9 → μ7 0 j = μ4 0 j := fun j a b d => by rw [hμ7, lu_ne _ _ d, lu_ne _ _ b, lu_ne _ _ a]
    have n78 : μ7 0 8 = 0 := by rw [hμ7, lu_ne _ _ (by omega), lu_ne _ _ (by omega), lu_same]
    have S : FI C n true K 0 t c h10 μ7 g := by
      refine ⟨?_, fun j hj => by rw [n7 1 (by omega)]; exact c2 j hj, hI, ?_, ?_, ?_, RD_Fr k3 (by rw [n7 7 (by omega)]; exact c5 7 (by omega) (by omega)), ?_⟩
      · rw [zb 0 (by omega), p4 0 (by omega)]; exact hC
      · exact y1.of (show h10 8 (1 + 0) 1 = _ by rw [zc _ (by omega)]; rfl) (show h10 8 (1 + 1) = _ by rw [zc _ (by omega)]; rfl)
      · rw [zc _ (by omega)]; exact y2
      · rw [zc _ (by omega)]; exact y3
      · rw [n7j 12 (by omega) (by omega) (by omega), c4 12 (by omega)]; exact k2
    obtain ⟨M, hy, μy, gy, b0, b1, b2, b3, b4, b5, b6, b7⟩ := carry_L k4 K 0 c 1000 1000 h10 μ7 g (by omega) (by omega) (by omega) (by omega) S (by rw [hμ7, lu_ne _ _ (by omega), lu_same]) (by rw [z10, lu_same]) (by rw [hμ7, lu_same])
    obtain ⟨f1, f2, f3, f4, f5⟩ := b6
    have b5' : In t (c + 600) gy := In_mono b5 (Nat.le_refl _) (by omega) bt hc
    obtain ⟨h15, hh15⟩ : ∃ h15 : Nat → Hp, h15 = lm_uB (lm_uB (lm_uB hy 8 (lm_u (hy 8) 0 7 (nI M))) 8 (lm_u (lm_u (hy 8) 0 7 (nI M)) 0 8 (hy 8 1 5))) 8 (lm_sb (lm_u (lm_u (hy 8) 0 7 (nI M)) 0 8 (hy 8 1 5)) 1 2 (lm_u (lm_sh 1 (lm_u (lm_u (hy 8) 0 7 (nI M)) 0 8 (hy 8 1 5))) 0 1 0)) := ⟨_, rfl⟩
    have v8 : h15 8 = lm_sb (lm_u (lm_u (hy 8) 0 7 (nI M)) 0 8 (hy 8 1 5)) 1 2 (lm_u (lm_sh 1 (lm_u (lm_u (hy 8) 0 7 (nI M)) 0 8 (hy 8 1 5))) 0 1 0) := by rw [hh15, uB_same]
    have vb : ∀ b, b ≠ 8 → h15 b = hy b := fun b hb => by rw [hh15, uB_ne _ _ hb, uB_ne _ _ hb, uB_ne _ _ hb]
    have vB : ∀ b, b ≠ 0 → b ≠ 8 → h15 b = h9 b := fun b a e => by rw [vb b e, f1 b a e, zb b e]
    have v3 : h15 8 3 = h2 8 3 := by rw [v8, sb1_o _ _ (by omega) (by omega), lu_c _ _ _ (by omega), lu_c _ _ _ (by omega), f2 3 (by omega) (by omega) (by omega), zc 3 (by omega), hρ, sb1_o _ _ (by omega) (by omega), z8]
    have v0 : h15 8 0 = lm_u (lm_u (hy 8) 0 7 (nI M)) 0 8 (hy 8 1 5) 0 := by rw [v8, sb1_o _ _ (by omega) (by omega)]
    have v00 : ∀ j, j ≠ 6 → j ≠ 7 → j ≠ 8 → h15 8 0 j = h2 8 0 j := fun j a b d => by rw [v0, lu_ne _ _ d, lu_ne _ _ b, f3 j a, z10, lu_ne _ _ a, hρ, sb1_o _ _ (by omega) (by omega), z8]
    have v06 : h15 8 0 6 = hy 8 0 6 := by rw [v0, lu_ne _ _ (by omega), lu_ne _ _ (by omega)]
    have v07 : h15 8 0 7 = nI M := by rw [v0, lu_ne _ _ (by omega), lu_same]
    have v08 : h15 8 0 8 = hy 8 1 5 := by rw [v0, lu_same]
    have C15 : Cn (h15 0) gy := by rw [vb 0 (by omega)]; exact b3
    have Mz : Mo (lm_u μy 0 6 0) gy := fun j hj => by rw [lu_c _ _ _ (by omega)]; exact b4 j hj
    obtain ⟨h', t1, t2, t3, t4⟩ := top_commit (h := h15) (μ' := lm_u μy 0 6 0) (g := g) (g' := gy) (p := p) (n := N) (H := H) (r := nI M) C15 (by rw [vB _ (by omega) (by omega)]; exact p3) hI (Hc_of p2 (by rw [v3, ← z8]) (fun b l1 l2 => vB b (by omega) (by omega))) hIH (nI_nn _ (by omega)) (Hs_of c3 (by rw [lu_ne _ _ (by omega), f4 5 (by omega), n7j 5 (by omega) (by omega) (by omega)]) (by rw [lu_c _ _ _ (by omega), f5 2 (by omega) (by omega) (by omega), n7 2 (by omega)])) (lu_same _ _ _ _) Mz b5' (Nat.le_refl _) (by omega)
    refine ⟨nI M, h', lm_u μy 0 6 0, ?_, ?_, t2, ?_, ?_, ?_⟩
    · rw [p1, lm_bd_some, hop, lm_bd_some, lm_lt_eq, ← hρ, lm_lt_eq, uB_same, ← hh]
      refine b1.trans ?_
      unfold ctl F_X3_start F_X3_empty
      rw [lm_lt_eq, uB_same, lm_bd_some, lm_lt_eq, uB_same, lm_lt_eq, lm_b2_some, lm_lt_eq]
      have e15 : lm_sh 1 (lm_u (hy 8) 0 7 (nI M)) 0 5 = hy 8 1 5 := by
        show lm_u (hy 8) 0 7 (nI M) (1 + 0) 5 = _
        rw [lu_c _ _ _ (by omega)]
      rw [e15, ← hh15, t1, lm_b2_some]
    · rw [c1, lm_bd_some, lm_lt_eq, lm_lt_eq, lm_lt_eq, ← hμ7]
      exact b2
    · have hk := hR2.2.1
      refine Rk_mono ?_ (Nat.le_refl _) (show c ≤ c + 600 by omega) bt hc
      unfold Rk at hk ⊢
      rw [t4 0 (by omega), v00 5 (by omega) (by omega) (by omega), t3 2 (by omega), vB 2 (by omega) (by omega), p4 2 (by omega), lu_ne _ (c := 0) (i := 6) (j := 4) _ (by omega), lu_c _ (c := 0) (d := 3) _ _ (by omega), f4 4 (by omega), f5 3 (by omega) (by omega) (by omega), n7j 4 (by omega) (by omega) (by omega), n7 3 (by omega), c4 4 (by omega), c5 3 (by omega) (by omega)]
      exact hk
    · refine ⟨fun _ => 0, 0, CP_0 ?_, RP_0 ?_⟩
      · show h' 8 (1 + 0) 1 = 0
        rw [t4 _ (by omega), v8]
        show lm_sh 1 (lm_sb (lm_u (lm_u (hy 8) 0 7 (nI M)) 0 8 (hy 8 1 5)) 1 2 (lm_u (lm_sh 1 (lm_u (lm_u (hy 8) 0 7 (nI M)) 0 8 (hy 8 1 5))) 0 1 0)) 0 1 = 0
        rw [sb1_0, lu_same]
      · rw [lu_ne _ _ (by omega), f4 8 (by omega), n78]
    · unfold Rs
      rw [t4 0 (by omega), v06, v07, v08, lu_ne _ (c := 0) (i := 6) (j := 9) _ (by omega), lu_c _ (c := 0) (d := 6) _ _ (by omega)]
      exact b7
  · rw [brF q, brF q]
    exact ⟨-2, h2, μ1, rfl, rfl, RR_mono hR2 (Nat.le_refl _) (by omega) bt hc⟩
end PC1
