def F_X4_copyFrom (σ : Hp) (ρ : Hp)  : Option (Hp) :=
  lm_bd (F_X5_copyFrom (lm_sh 1 σ) (lm_sh 1 ρ)) fun τ1 =>
  lm_lt (lm_sb σ 1 3 τ1) fun σ2 =>
  lm_bd (F_X5_copyFrom (lm_sh 4 σ2) (lm_sh 4 ρ)) fun τ3 =>
  lm_lt (lm_sb σ2 4 3 τ3) fun σ4 =>
  lm_bd (F_X0_copyFrom (lm_sh 7 σ4) (lm_sh 7 ρ)) fun τ5 =>
  lm_lt (lm_sb σ4 7 4 τ5) fun σ6 =>
  lm_bd (F_X2_copyFrom (lm_sh 11 σ6) (lm_sh 11 ρ)) fun τ7 =>
  lm_lt (lm_sb σ6 11 4 τ7) fun σ8 =>
  lm_lt (lm_ua σ8 15 (va_cpy (ρ 15) (σ8 15) 0 0 5)) fun σ9 =>
  lm_lt (lm_ua σ9 16 (va_cpy (ρ 16) (σ9 16) 0 0 7)) fun σ10 =>
  lm_lt (lm_u σ10 0 6 (ρ 0 6)) fun σ11 =>
  lm_lt (lm_u σ11 0 7 (ρ 0 7)) fun σ12 =>
  some σ12
theorem in4_X4_copyFrom : ∀ w ∈ u_ws RX4 TX4 8, w ∈ wsX4_copyFrom := by decide +kernel
theorem fl12_X4_copyFrom : Cond.fieldLink RX4 12 "LoopMemo$State" "outer" "LLoopMemo$Table;" ∈ wsX4_copyFrom := by decide +kernel
theorem fl18_X4_copyFrom : Cond.fieldLink RX4 18 "LoopMemo$State" "inner" "LLoopMemo$Table;" ∈ wsX4_copyFrom := by decide +kernel
theorem fl24_X4_copyFrom : Cond.fieldLink RX4 24 "LoopMemo$State" "answers" "LLoopMemo$Answers;" ∈ wsX4_copyFrom := by decide +kernel
theorem fl31_X4_copyFrom : Cond.fieldLink RX4 31 "LoopMemo$State" "memo" "LLoopMemo$Memo;" ∈ wsX4_copyFrom := by decide +kernel
theorem fl44_X4_copyFrom : Cond.fieldLink RX4 44 "LoopMemo$State" "settings" "[I" ∈ wsX4_copyFrom := by decide +kernel
theorem fl47_X4_copyFrom : Cond.fieldLink RX4 47 "LoopMemo$State" "tallies" "[I" ∈ wsX4_copyFrom := by decide +kernel
theorem fl64_X4_copyFrom : Cond.fieldLink RX4 64 "LoopMemo$State" "place" "I" ∈ wsX4_copyFrom := by decide +kernel
theorem fl68_X4_copyFrom : Cond.fieldLink RX4 68 "LoopMemo$State" "total" "I" ∈ wsX4_copyFrom := by decide +kernel
theorem ini_X6_copyNumbers_X4_copyFrom : Cond.initialized yX6_copyNumbers.cls ∈ wsX4_copyFrom := by decide +kernel
theorem sta_X6_copyNumbers_X4_copyFrom : Cond.static yX6_copyNumbers ∈ wsX4_copyFrom := by decide +kernel
set_option maxRecDepth 100000 in
set_option maxHeartbeats 4000000 in
theorem m_X4_copyFrom (D : va_G) (z zo : ClassId) (l : Launch) (a : Nat → Nat) (b : Nat → Nat) (σ : Hp) (ρ : Hp)   (σ' : Hp) (hF : F_X4_copyFrom σ ρ  = some σ') : lm_C D z zo l yX4_copyFrom wsX4_copyFrom 3 82 [.ref (a 0), .ref (b 0)] (stW z a σ ++ stW z b ρ) none (stW z a σ' ++ stW z b ρ) := by
  refine lm_C.of (by decide) rfl (Nat.le_of_ble_eq_true rfl) (own := RX4) rfl ?_
  intro p e s m_ args below meth c C hr hk hA
  show lm_St p l e ({ frames := 3, cells := 0, slots := 0, locals := 82 }) s m_ args below meth c D (va_A (stW z a σ ++ stW z b ρ) s.heap.size) 2 0 0 (lm_End below D none (stW z a σ ++ stW z b ρ) (stW z a σ' ++ stW z b ρ) args s) false (stW z a σ ++ stW z b ρ) 0 [(0, .ref (a 0)), (1, .ref (b 0))] []
  rw [F_X4_copyFrom] at hF
  refine lm_aload_n C dX4_copyFrom_0 rfl 0 rfl rfl ?_
  refine lm_getf C (T := TX4) (N := 8) (v := .ref (a 1)) in4_X4_copyFrom 0 rfl rfl 0 (by decide) fl12_X4_copyFrom rfl rfl dX4_copyFrom_1 rfl ?_
  refine lm_aload_n C dX4_copyFrom_4 rfl 1 rfl rfl ?_
  refine lm_getf C (T := TX4) (N := 8) (v := .ref (b 1)) in4_X4_copyFrom 17 rfl rfl 0 (by decide) fl12_X4_copyFrom rfl rfl dX4_copyFrom_5 rfl ?_
  obtain ⟨τ1, qτ1, hF⟩ := lm_bde hF
  obtain ⟨σ2, eσ2, hF⟩ := lm_lte hF
  refine lm_callV C (n := 1) (ci := 5) (w' := (stW z a σ2 ++ stW z b ρ)) hA (m_X5_copyFrom D z zo l (lm_sh 1 a) (lm_sh 1 b) (lm_sh 1 σ) (lm_sh 1 ρ) τ1 qτ1) gX4_copyFrom_X5_copyFrom rfl (by decide +kernel) ⟨Nat.le_of_ble_eq_true rfl, Nat.le_of_ble_eq_true rfl⟩ ⟨Nat.le_of_ble_eq_true rfl, Nat.le_of_ble_eq_true rfl⟩ 1 rfl rfl (lm_pm4 (st_g1 z a σ) (st_g1 z b ρ)) (by rw [← eσ2]; exact lm_pm4' (st_p1 z a σ τ1) (st_g1 z b ρ)) rfl rfl (Nat.le_of_ble_eq_true rfl) dX4_copyFrom_8 (st' := []) rfl rfl ?_
  refine lm_aload_n C dX4_copyFrom_11 rfl 0 rfl rfl ?_
  refine lm_getf C (T := TX4) (N := 8) (v := .ref (a 4)) in4_X4_copyFrom 0 rfl rfl 1 (by decide) fl18_X4_copyFrom rfl rfl dX4_copyFrom_12 rfl ?_
  refine lm_aload_n C dX4_copyFrom_15 rfl 1 rfl rfl ?_
  refine lm_getf C (T := TX4) (N := 8) (v := .ref (b 4)) in4_X4_copyFrom 17 rfl rfl 1 (by decide) fl18_X4_copyFrom rfl rfl dX4_copyFrom_16 rfl ?_
  obtain ⟨τ3, qτ3, hF⟩ := lm_bde hF
  obtain ⟨σ4, eσ4, hF⟩ := lm_lte hF
  refine lm_callV C (n := 1) (ci := 5) (w' := (stW z a σ4 ++ stW z b ρ)) hA (m_X5_copyFrom D z zo l (lm_sh 4 a) (lm_sh 4 b) (lm_sh 4 σ2) (lm_sh 4 ρ) τ3 qτ3) gX4_copyFrom_X5_copyFrom rfl (by decide +kernel) ⟨Nat.le_of_ble_eq_true rfl, Nat.le_of_ble_eq_true rfl⟩ ⟨Nat.le_of_ble_eq_true rfl, Nat.le_of_ble_eq_true rfl⟩ 4 rfl rfl (lm_pm4 (st_g4 z a σ2) (st_g4 z b ρ)) (by rw [← eσ4]; exact lm_pm4' (st_p4 z a σ2 τ3) (st_g4 z b ρ)) rfl rfl (Nat.le_of_ble_eq_true rfl) dX4_copyFrom_19 (st' := []) rfl rfl ?_
  refine lm_aload_n C dX4_copyFrom_22 rfl 0 rfl rfl ?_
  refine lm_getf C (T := TX4) (N := 8) (v := .ref (a 7)) in4_X4_copyFrom 0 rfl rfl 2 (by decide) fl24_X4_copyFrom rfl rfl dX4_copyFrom_23 rfl ?_
  refine lm_aload_n C dX4_copyFrom_26 rfl 1 rfl rfl ?_
  refine lm_getf C (T := TX4) (N := 8) (v := .ref (b 7)) in4_X4_copyFrom 17 rfl rfl 2 (by decide) fl24_X4_copyFrom rfl rfl dX4_copyFrom_27 rfl ?_
  obtain ⟨τ5, qτ5, hF⟩ := lm_bde hF
  obtain ⟨σ6, eσ6, hF⟩ := lm_lte hF
  refine lm_callV C (n := 1) (ci := 0) (w' := (stW z a σ6 ++ stW z b ρ)) hA (m_X0_copyFrom D z zo l (lm_sh 7 a) (lm_sh 7 b) (lm_sh 7 σ4) (lm_sh 7 ρ) τ5 qτ5) gX4_copyFrom_X0_copyFrom rfl (by decide +kernel) ⟨Nat.le_of_ble_eq_true rfl, Nat.le_of_ble_eq_true rfl⟩ ⟨Nat.le_of_ble_eq_true rfl, Nat.le_of_ble_eq_true rfl⟩ 7 rfl rfl (lm_pm4 (st_g7 z a σ4) (st_g7 z b ρ)) (by rw [← eσ6]; exact lm_pm4' (st_p7 z a σ4 τ5) (st_g7 z b ρ)) rfl rfl (Nat.le_of_ble_eq_true rfl) dX4_copyFrom_30 (st' := []) rfl rfl ?_
  refine lm_aload_n C dX4_copyFrom_33 rfl 0 rfl rfl ?_
  refine lm_getf C (T := TX4) (N := 8) (v := .ref (a 11)) in4_X4_copyFrom 0 rfl rfl 3 (by decide) fl31_X4_copyFrom rfl rfl dX4_copyFrom_34 rfl ?_
  refine lm_aload_n C dX4_copyFrom_37 rfl 1 rfl rfl ?_
  refine lm_getf C (T := TX4) (N := 8) (v := .ref (b 11)) in4_X4_copyFrom 17 rfl rfl 3 (by decide) fl31_X4_copyFrom rfl rfl dX4_copyFrom_38 rfl ?_
  obtain ⟨τ7, qτ7, hF⟩ := lm_bde hF
  obtain ⟨σ8, eσ8, hF⟩ := lm_lte hF
  refine lm_callV C (n := 1) (ci := 2) (w' := (stW z a σ8 ++ stW z b ρ)) hA (m_X2_copyFrom D z zo l (lm_sh 11 a) (lm_sh 11 b) (lm_sh 11 σ6) (lm_sh 11 ρ) τ7 qτ7) gX4_copyFrom_X2_copyFrom rfl (by decide +kernel) ⟨Nat.le_of_ble_eq_true rfl, Nat.le_of_ble_eq_true rfl⟩ ⟨Nat.le_of_ble_eq_true rfl, Nat.le_of_ble_eq_true rfl⟩ 11 rfl rfl (lm_pm4 (st_g11 z a σ6) (st_g11 z b ρ)) (by rw [← eσ8]; exact lm_pm4' (st_p11 z a σ6 τ7) (st_g11 z b ρ)) rfl rfl (Nat.le_of_ble_eq_true rfl) dX4_copyFrom_41 (st' := []) rfl rfl ?_
  refine lm_aload_n C dX4_copyFrom_44 rfl 1 rfl rfl ?_
  refine lm_getf C (T := TX4) (N := 8) (v := .ref (b 15)) in4_X4_copyFrom 17 rfl rfl 4 (by decide) fl44_X4_copyFrom rfl rfl dX4_copyFrom_45 rfl ?_
  refine lm_aload_n C dX4_copyFrom_48 rfl 0 rfl rfl ?_
  refine lm_getf C (T := TX4) (N := 8) (v := .ref (a 15)) in4_X4_copyFrom 0 rfl rfl 4 (by decide) fl44_X4_copyFrom rfl rfl dX4_copyFrom_49 rfl ?_
  obtain ⟨σ9, eσ9, hF⟩ := lm_lte hF
  refine lm_callSN C (n := 2) (w' := (stW z a σ9 ++ stW z b ρ)) (wr := ((stW z a σ8 ++ stW z b ρ).eraseIdx 32).eraseIdx 15) hA (m_X6_copyNumbers D z zo l (b 15) (a 15) 5 (ρ 15) (σ8 15) (by decide)) gX4_copyFrom_X6_copyNumbers_n60 rfl ini_X6_copyNumbers_X4_copyFrom sta_X6_copyNumbers_X4_copyFrom (by decide +kernel) ⟨Nat.le_of_ble_eq_true rfl, Nat.le_of_ble_eq_true rfl⟩ ⟨Nat.le_of_ble_eq_true rfl, Nat.le_of_ble_eq_true rfl⟩ (by decide +kernel) (lm_pick2 (stW z a σ8 ++ stW z b ρ) 32 15 _ _ rfl rfl) (by rw [← eσ9]; exact lm_pick2' 32 15 rfl rfl rfl) rfl rfl (Nat.le_of_ble_eq_true rfl) dX4_copyFrom_52 (st' := []) rfl rfl ?_
  refine lm_aload_n C dX4_copyFrom_55 rfl 1 rfl rfl ?_
  refine lm_getf C (T := TX4) (N := 8) (v := .ref (b 16)) in4_X4_copyFrom 17 rfl rfl 5 (by decide) fl47_X4_copyFrom rfl rfl dX4_copyFrom_56 rfl ?_
  refine lm_aload_n C dX4_copyFrom_59 rfl 0 rfl rfl ?_
  refine lm_getf C (T := TX4) (N := 8) (v := .ref (a 16)) in4_X4_copyFrom 0 rfl rfl 5 (by decide) fl47_X4_copyFrom rfl rfl dX4_copyFrom_60 rfl ?_
  obtain ⟨σ10, eσ10, hF⟩ := lm_lte hF
  refine lm_callSN C (n := 2) (w' := (stW z a σ10 ++ stW z b ρ)) (wr := ((stW z a σ9 ++ stW z b ρ).eraseIdx 33).eraseIdx 16) hA (m_X6_copyNumbers D z zo l (b 16) (a 16) 7 (ρ 16) (σ9 16) (by decide)) gX4_copyFrom_X6_copyNumbers_n60 rfl ini_X6_copyNumbers_X4_copyFrom sta_X6_copyNumbers_X4_copyFrom (by decide +kernel) ⟨Nat.le_of_ble_eq_true rfl, Nat.le_of_ble_eq_true rfl⟩ ⟨Nat.le_of_ble_eq_true rfl, Nat.le_of_ble_eq_true rfl⟩ (by decide +kernel) (lm_pick2 (stW z a σ9 ++ stW z b ρ) 33 16 _ _ rfl rfl) (by rw [← eσ10]; exact lm_pick2' 33 16 rfl rfl rfl) rfl rfl (Nat.le_of_ble_eq_true rfl) dX4_copyFrom_63 (st' := []) rfl rfl ?_
  refine lm_aload_n C dX4_copyFrom_66 rfl 0 rfl rfl ?_
  refine lm_aload_n C dX4_copyFrom_67 rfl 1 rfl rfl ?_
  refine lm_getf C (T := TX4) (N := 8) (v := .int (ρ 0 6)) in4_X4_copyFrom 17 rfl rfl 6 (by decide) fl64_X4_copyFrom rfl rfl dX4_copyFrom_68 rfl ?_
  obtain ⟨σ11, eσ11, hF⟩ := lm_lte hF
  refine lm_putf C (T := TX4) (N := 8) (ty := .int) (v := .int (ρ 0 6)) (w' := (stW z a σ11 ++ stW z b ρ)) in4_X4_copyFrom tyX4 tyX4_ok nmX4 0 rfl rfl 6 (by decide) fl64_X4_copyFrom rfl rfl rfl rfl rfl (Nat.le_of_ble_eq_true rfl) dX4_copyFrom_71 (by rw [← eσ11]; rfl) rfl ?_
  refine lm_aload_n C dX4_copyFrom_74 rfl 0 rfl rfl ?_
  refine lm_aload_n C dX4_copyFrom_75 rfl 1 rfl rfl ?_
  refine lm_getf C (T := TX4) (N := 8) (v := .int (ρ 0 7)) in4_X4_copyFrom 17 rfl rfl 7 (by decide) fl68_X4_copyFrom rfl rfl dX4_copyFrom_76 rfl ?_
  obtain ⟨σ12, eσ12, hF⟩ := lm_lte hF
  refine lm_putf C (T := TX4) (N := 8) (ty := .int) (v := .int (ρ 0 7)) (w' := (stW z a σ12 ++ stW z b ρ)) in4_X4_copyFrom tyX4 tyX4_ok nmX4 0 rfl rfl 7 (by decide) fl68_X4_copyFrom rfl rfl rfl rfl rfl (Nat.le_of_ble_eq_true rfl) dX4_copyFrom_79 (by rw [← eσ12]; rfl) rfl ?_
  cases hF
  exact lm_vret C hr hk rfl rfl dX4_copyFrom_82
theorem in4_X4_table : ∀ w ∈ u_ws RX4 TX4 8, w ∈ wsX4_table := by decide +kernel
theorem fl12_X4_table : Cond.fieldLink RX4 12 "LoopMemo$State" "outer" "LLoopMemo$Table;" ∈ wsX4_table := by decide +kernel
theorem fl18_X4_table : Cond.fieldLink RX4 18 "LoopMemo$State" "inner" "LLoopMemo$Table;" ∈ wsX4_table := by decide +kernel
set_option maxRecDepth 100000 in
set_option maxHeartbeats 4000000 in
theorem m_X4_table_1 (D : va_G) (z zo : ClassId) (l : Launch) (a : Nat → Nat) (σ : Hp) (x1 : Int32) (h0 : x1 = 0) : lm_CR D z zo l yX4_table wsX4_table 0 0 [.ref (a 0), .int x1] (stW z a σ) (some (.ref (a 1))) := by
  refine lm_CR.of (by decide) rfl (Nat.le_of_ble_eq_true rfl) (own := RX4) rfl ?_
  intro p e s m_ args below meth c C hr hk
  refine lm_iload_n C dX4_table_0 rfl 1 rfl rfl ?_
  refine lm_if_eq C (tgt := 11) dX4_table_1 (by decide) rfl (fun c => ?_) (fun c => ?_)
  rotate_left
  exact absurd h0 c
  refine lm_aload_n C dX4_table_11 rfl 0 rfl rfl ?_
  refine lm_getf C (T := TX4) (N := 8) (v := .ref (a 1)) in4_X4_table 0 rfl rfl 0 (by decide) fl12_X4_table rfl rfl dX4_table_12 rfl ?_
  exact lm_aretR C hr hk (Or.inl ⟨_, rfl⟩) (Or.inr ⟨_, rfl⟩) rfl dX4_table_15
set_option maxRecDepth 100000 in
set_option maxHeartbeats 4000000 in
theorem m_X4_table_2 (D : va_G) (z zo : ClassId) (l : Launch) (a : Nat → Nat) (σ : Hp) (x1 : Int32) (h0 : ¬ x1 = 0) : lm_CR D z zo l yX4_table wsX4_table 0 0 [.ref (a 0), .int x1] (stW z a σ) (some (.ref (a 4))) := by
  refine lm_CR.of (by decide) rfl (Nat.le_of_ble_eq_true rfl) (own := RX4) rfl ?_
  intro p e s m_ args below meth c C hr hk
  refine lm_iload_n C dX4_table_0 rfl 1 rfl rfl ?_
  refine lm_if_eq C (tgt := 11) dX4_table_1 (by decide) rfl (fun c => ?_) (fun c => ?_)
  exact absurd c h0
  refine lm_aload_n C dX4_table_4 rfl 0 rfl rfl ?_
  refine lm_getf C (T := TX4) (N := 8) (v := .ref (a 4)) in4_X4_table 0 rfl rfl 1 (by decide) fl18_X4_table rfl rfl dX4_table_5 rfl ?_
  refine lm_goto C (tgt := 15) dX4_table_8 (by decide) ?_
  exact lm_aretR C hr hk (Or.inl ⟨_, rfl⟩) (Or.inr ⟨_, rfl⟩) rfl dX4_table_15
theorem in4_X4_answers : ∀ w ∈ u_ws RX4 TX4 8, w ∈ wsX4_answers := by decide +kernel
theorem fl24_X4_answers : Cond.fieldLink RX4 24 "LoopMemo$State" "answers" "LLoopMemo$Answers;" ∈ wsX4_answers := by decide +kernel
set_option maxRecDepth 100000 in
set_option maxHeartbeats 4000000 in
theorem m_X4_answers_1 (D : va_G) (z zo : ClassId) (l : Launch) (a : Nat → Nat) (σ : Hp)   : lm_CR D z zo l yX4_answers wsX4_answers 0 0 [.ref (a 0)] (stW z a σ) (some (.ref (a 7))) := by
  refine lm_CR.of (by decide) rfl (Nat.le_of_ble_eq_true rfl) (own := RX4) rfl ?_
  intro p e s m_ args below meth c C hr hk
  refine lm_aload_n C dX4_answers_0 rfl 0 rfl rfl ?_
  refine lm_getf C (T := TX4) (N := 8) (v := .ref (a 7)) in4_X4_answers 0 rfl rfl 2 (by decide) fl24_X4_answers rfl rfl dX4_answers_1 rfl ?_
  exact lm_aretR C hr hk (Or.inl ⟨_, rfl⟩) (Or.inr ⟨_, rfl⟩) rfl dX4_answers_4
theorem in4_X4_memo : ∀ w ∈ u_ws RX4 TX4 8, w ∈ wsX4_memo := by decide +kernel
theorem fl31_X4_memo : Cond.fieldLink RX4 31 "LoopMemo$State" "memo" "LLoopMemo$Memo;" ∈ wsX4_memo := by decide +kernel
set_option maxRecDepth 100000 in
set_option maxHeartbeats 4000000 in
theorem m_X4_memo_1 (D : va_G) (z zo : ClassId) (l : Launch) (a : Nat → Nat) (σ : Hp)   : lm_CR D z zo l yX4_memo wsX4_memo 0 0 [.ref (a 0)] (stW z a σ) (some (.ref (a 11))) := by
  refine lm_CR.of (by decide) rfl (Nat.le_of_ble_eq_true rfl) (own := RX4) rfl ?_
  intro p e s m_ args below meth c C hr hk
  refine lm_aload_n C dX4_memo_0 rfl 0 rfl rfl ?_
  refine lm_getf C (T := TX4) (N := 8) (v := .ref (a 11)) in4_X4_memo 0 rfl rfl 3 (by decide) fl31_X4_memo rfl rfl dX4_memo_1 rfl ?_
  exact lm_aretR C hr hk (Or.inl ⟨_, rfl⟩) (Or.inr ⟨_, rfl⟩) rfl dX4_memo_4
def F_X4_setting (σ : Hp) (x1 : Int32) : Option Int32 :=
  lm_br (x1 < 0)
   (some (0 : Int32))
   (lm_br ((5 : Int32) ≤ x1)
    (some (0 : Int32))
    (lm_gi x1 5
    (some (σ 15 x1.toNatClampNeg))))
theorem in4_X4_setting : ∀ w ∈ u_ws RX4 TX4 8, w ∈ wsX4_setting := by decide +kernel
theorem fl44_X4_setting : Cond.fieldLink RX4 44 "LoopMemo$State" "settings" "[I" ∈ wsX4_setting := by decide +kernel
set_option maxRecDepth 100000 in
set_option maxHeartbeats 4000000 in
theorem m_X4_setting (D : va_G) (z zo : ClassId) (l : Launch) (a : Nat → Nat) (σ : Hp) (x1 : Int32) (r : Int32)  (hF : F_X4_setting σ x1 = some r) : lm_CR D z zo l yX4_setting wsX4_setting 0 0 [.ref (a 0), .int x1] (stW z a σ) (some (.int r)) := by
  refine lm_CR.of (by decide) rfl (Nat.le_of_ble_eq_true rfl) (own := RX4) rfl ?_
  intro p e s m_ args below meth c C hr hk
  show lm_St p l e ({ frames := 0, cells := 0, slots := 0, locals := 0 }) s m_ args below meth c D (fun _ => False) 2 0 0 (lm_EndR below (some (.int r)) args s) true (stW z a σ) 0 [(0, .ref (a 0)), (1, .int x1)] []
  rw [F_X4_setting] at hF
  refine lm_iload_n C dX4_setting_0 rfl 1 rfl rfl ?_
  refine lm_if_lt C (tgt := 22) dX4_setting_1 (by decide) rfl (fun c1 => ?_) (fun c1 => ?_)
  · have hF := lm_brt hF c1
    refine lm_iconst C (v := (0 : Int32)) dX4_setting_22 (by decide) rfl ?_
    cases hF
    exact lm_iretR C hr hk rfl dX4_setting_23
  · have hF := lm_brf hF c1
    refine lm_iload_n C dX4_setting_4 rfl 1 rfl rfl ?_
    refine lm_aload_n C dX4_setting_5 rfl 0 rfl rfl ?_
    refine lm_getf C (T := TX4) (N := 8) (v := .ref (a 15)) in4_X4_setting 0 rfl rfl 4 (by decide) fl44_X4_setting rfl rfl dX4_setting_6 rfl ?_
    refine lm_alen C (v := (5 : Int32)) 15 rfl rfl dX4_setting_9 rfl ?_
    refine lm_icmp_ge C (tgt := 22) dX4_setting_10 (by decide) rfl (fun c2 => ?_) (fun c2 => ?_)
    · have hF := lm_brt hF c2
      refine lm_iconst C (v := (0 : Int32)) dX4_setting_22 (by decide) rfl ?_
      cases hF
      exact lm_iretR C hr hk rfl dX4_setting_23
    · have hF := lm_brf hF c2
      refine lm_aload_n C dX4_setting_13 rfl 0 rfl rfl ?_
      refine lm_getf C (T := TX4) (N := 8) (v := .ref (a 15)) in4_X4_setting 0 rfl rfl 4 (by decide) fl44_X4_setting rfl rfl dX4_setting_14 rfl ?_
      refine lm_iload_n C dX4_setting_17 rfl 1 rfl rfl ?_
      obtain ⟨b3, hF⟩ := lm_gie hF
      refine lm_iald C (v := (σ 15 x1.toNatClampNeg)) 15 rfl b3 rfl dX4_setting_18 rfl ?_
      refine lm_goto C (tgt := 23) dX4_setting_19 (by decide) ?_
      cases hF
      exact lm_iretR C hr hk rfl dX4_setting_23
def F_X4_tally (σ : Hp) (x1 : Int32) : Option Int32 :=
  lm_br (x1 < 0)
   (some (0 : Int32))
   (lm_br ((7 : Int32) ≤ x1)
    (some (0 : Int32))
    (lm_gi x1 7
    (some (σ 16 x1.toNatClampNeg))))
theorem in4_X4_tally : ∀ w ∈ u_ws RX4 TX4 8, w ∈ wsX4_tally := by decide +kernel
theorem fl47_X4_tally : Cond.fieldLink RX4 47 "LoopMemo$State" "tallies" "[I" ∈ wsX4_tally := by decide +kernel
set_option maxRecDepth 100000 in
set_option maxHeartbeats 4000000 in
theorem m_X4_tally (D : va_G) (z zo : ClassId) (l : Launch) (a : Nat → Nat) (σ : Hp) (x1 : Int32) (r : Int32)  (hF : F_X4_tally σ x1 = some r) : lm_CR D z zo l yX4_tally wsX4_tally 0 0 [.ref (a 0), .int x1] (stW z a σ) (some (.int r)) := by
  refine lm_CR.of (by decide) rfl (Nat.le_of_ble_eq_true rfl) (own := RX4) rfl ?_
  intro p e s m_ args below meth c C hr hk
  show lm_St p l e ({ frames := 0, cells := 0, slots := 0, locals := 0 }) s m_ args below meth c D (fun _ => False) 2 0 0 (lm_EndR below (some (.int r)) args s) true (stW z a σ) 0 [(0, .ref (a 0)), (1, .int x1)] []
  rw [F_X4_tally] at hF
  refine lm_iload_n C dX4_tally_0 rfl 1 rfl rfl ?_
  refine lm_if_lt C (tgt := 22) dX4_tally_1 (by decide) rfl (fun c1 => ?_) (fun c1 => ?_)
  · have hF := lm_brt hF c1
    refine lm_iconst C (v := (0 : Int32)) dX4_tally_22 (by decide) rfl ?_
    cases hF
    exact lm_iretR C hr hk rfl dX4_tally_23
  · have hF := lm_brf hF c1
    refine lm_iload_n C dX4_tally_4 rfl 1 rfl rfl ?_
    refine lm_aload_n C dX4_tally_5 rfl 0 rfl rfl ?_
    refine lm_getf C (T := TX4) (N := 8) (v := .ref (a 16)) in4_X4_tally 0 rfl rfl 5 (by decide) fl47_X4_tally rfl rfl dX4_tally_6 rfl ?_
    refine lm_alen C (v := (7 : Int32)) 16 rfl rfl dX4_tally_9 rfl ?_
    refine lm_icmp_ge C (tgt := 22) dX4_tally_10 (by decide) rfl (fun c2 => ?_) (fun c2 => ?_)
    · have hF := lm_brt hF c2
      refine lm_iconst C (v := (0 : Int32)) dX4_tally_22 (by decide) rfl ?_
      cases hF
      exact lm_iretR C hr hk rfl dX4_tally_23
    · have hF := lm_brf hF c2
      refine lm_aload_n C dX4_tally_13 rfl 0 rfl rfl ?_
      refine lm_getf C (T := TX4) (N := 8) (v := .ref (a 16)) in4_X4_tally 0 rfl rfl 5 (by decide) fl47_X4_tally rfl rfl dX4_tally_14 rfl ?_
      refine lm_iload_n C dX4_tally_17 rfl 1 rfl rfl ?_
      obtain ⟨b3, hF⟩ := lm_gie hF
      refine lm_iald C (v := (σ 16 x1.toNatClampNeg)) 16 rfl b3 rfl dX4_tally_18 rfl ?_
      refine lm_goto C (tgt := 23) dX4_tally_19 (by decide) ?_
      cases hF
      exact lm_iretR C hr hk rfl dX4_tally_23
def F_X4_place (σ : Hp)  : Option Int32 :=
  some (σ 0 6)
theorem in4_X4_place : ∀ w ∈ u_ws RX4 TX4 8, w ∈ wsX4_place := by decide +kernel
theorem fl64_X4_place : Cond.fieldLink RX4 64 "LoopMemo$State" "place" "I" ∈ wsX4_place := by decide +kernel
set_option maxRecDepth 100000 in
set_option maxHeartbeats 4000000 in
theorem m_X4_place (D : va_G) (z zo : ClassId) (l : Launch) (a : Nat → Nat) (σ : Hp)  (r : Int32)  (hF : F_X4_place σ  = some r) : lm_CR D z zo l yX4_place wsX4_place 0 0 [.ref (a 0)] (stW z a σ) (some (.int r)) := by
  refine lm_CR.of (by decide) rfl (Nat.le_of_ble_eq_true rfl) (own := RX4) rfl ?_
  intro p e s m_ args below meth c C hr hk
  show lm_St p l e ({ frames := 0, cells := 0, slots := 0, locals := 0 }) s m_ args below meth c D (fun _ => False) 1 0 0 (lm_EndR below (some (.int r)) args s) true (stW z a σ) 0 [(0, .ref (a 0))] []
  rw [F_X4_place] at hF
  refine lm_aload_n C dX4_place_0 rfl 0 rfl rfl ?_
  refine lm_getf C (T := TX4) (N := 8) (v := .int (σ 0 6)) in4_X4_place 0 rfl rfl 6 (by decide) fl64_X4_place rfl rfl dX4_place_1 rfl ?_
  cases hF
  exact lm_iretR C hr hk rfl dX4_place_4
def F_X4_totalSoFar (σ : Hp)  : Option Int32 :=
  some (σ 0 7)
theorem in4_X4_totalSoFar : ∀ w ∈ u_ws RX4 TX4 8, w ∈ wsX4_totalSoFar := by decide +kernel
theorem fl68_X4_totalSoFar : Cond.fieldLink RX4 68 "LoopMemo$State" "total" "I" ∈ wsX4_totalSoFar := by decide +kernel
set_option maxRecDepth 100000 in
set_option maxHeartbeats 4000000 in
theorem m_X4_totalSoFar (D : va_G) (z zo : ClassId) (l : Launch) (a : Nat → Nat) (σ : Hp)  (r : Int32)  (hF : F_X4_totalSoFar σ  = some r) : lm_CR D z zo l yX4_totalSoFar wsX4_totalSoFar 0 0 [.ref (a 0)] (stW z a σ) (some (.int r)) := by
  refine lm_CR.of (by decide) rfl (Nat.le_of_ble_eq_true rfl) (own := RX4) rfl ?_
  intro p e s m_ args below meth c C hr hk
  show lm_St p l e ({ frames := 0, cells := 0, slots := 0, locals := 0 }) s m_ args below meth c D (fun _ => False) 1 0 0 (lm_EndR below (some (.int r)) args s) true (stW z a σ) 0 [(0, .ref (a 0))] []
  rw [F_X4_totalSoFar] at hF
  refine lm_aload_n C dX4_totalSoFar_0 rfl 0 rfl rfl ?_
  refine lm_getf C (T := TX4) (N := 8) (v := .int (σ 0 7)) in4_X4_totalSoFar 0 rfl rfl 7 (by decide) fl68_X4_totalSoFar rfl rfl dX4_totalSoFar_1 rfl ?_
  cases hF
  exact lm_iretR C hr hk rfl dX4_totalSoFar_4
def F_X4_isDone (σ : Hp) (x1 : Int32) : Option Int32 :=
  lm_br ((σ 0 6) ≤ x1)
   (some (0 : Int32))
   (some (1 : Int32))
theorem in4_X4_isDone : ∀ w ∈ u_ws RX4 TX4 8, w ∈ wsX4_isDone := by decide +kernel
theorem fl64_X4_isDone : Cond.fieldLink RX4 64 "LoopMemo$State" "place" "I" ∈ wsX4_isDone := by decide +kernel
set_option maxRecDepth 100000 in
set_option maxHeartbeats 4000000 in
theorem m_X4_isDone (D : va_G) (z zo : ClassId) (l : Launch) (a : Nat → Nat) (σ : Hp) (x1 : Int32) (r : Int32)  (hF : F_X4_isDone σ x1 = some r) : lm_CR D z zo l yX4_isDone wsX4_isDone 0 0 [.ref (a 0), .int x1] (stW z a σ) (some (.int r)) := by
  refine lm_CR.of (by decide) rfl (Nat.le_of_ble_eq_true rfl) (own := RX4) rfl ?_
  intro p e s m_ args below meth c C hr hk
  show lm_St p l e ({ frames := 0, cells := 0, slots := 0, locals := 0 }) s m_ args below meth c D (fun _ => False) 2 0 0 (lm_EndR below (some (.int r)) args s) true (stW z a σ) 0 [(0, .ref (a 0)), (1, .int x1)] []
  rw [F_X4_isDone] at hF
  refine lm_iload_n C dX4_isDone_0 rfl 1 rfl rfl ?_
  refine lm_aload_n C dX4_isDone_1 rfl 0 rfl rfl ?_
  refine lm_getf C (T := TX4) (N := 8) (v := .int (σ 0 6)) in4_X4_isDone 0 rfl rfl 6 (by decide) fl64_X4_isDone rfl rfl dX4_isDone_2 rfl ?_
  refine lm_icmp_ge C (tgt := 12) dX4_isDone_5 (by decide) rfl (fun c1 => ?_) (fun c1 => ?_)
  · have hF := lm_brt hF c1
    refine lm_iconst C (v := (0 : Int32)) dX4_isDone_12 (by decide) rfl ?_
    cases hF
    exact lm_zretR C hr hk rfl rfl dX4_isDone_13
  · have hF := lm_brf hF c1
    refine lm_iconst C (v := (1 : Int32)) dX4_isDone_8 (by decide) rfl ?_
    refine lm_goto C (tgt := 13) dX4_isDone_9 (by decide) ?_
    cases hF
    exact lm_zretR C hr hk rfl rfl dX4_isDone_13
def F_X4_isInBand (σ : Hp) (x1 : Int32) : Option Int32 :=
  lm_br (x1 < (σ 15 3))
   (some (0 : Int32))
   (lm_br ((σ 15 4) < x1)
    (some (0 : Int32))
    (some (1 : Int32)))
theorem in4_X4_isInBand : ∀ w ∈ u_ws RX4 TX4 8, w ∈ wsX4_isInBand := by decide +kernel
theorem fl44_X4_isInBand : Cond.fieldLink RX4 44 "LoopMemo$State" "settings" "[I" ∈ wsX4_isInBand := by decide +kernel
set_option maxRecDepth 100000 in
set_option maxHeartbeats 4000000 in
theorem m_X4_isInBand (D : va_G) (z zo : ClassId) (l : Launch) (a : Nat → Nat) (σ : Hp) (x1 : Int32) (r : Int32)  (hF : F_X4_isInBand σ x1 = some r) : lm_CR D z zo l yX4_isInBand wsX4_isInBand 0 0 [.ref (a 0), .int x1] (stW z a σ) (some (.int r)) := by
  refine lm_CR.of (by decide) rfl (Nat.le_of_ble_eq_true rfl) (own := RX4) rfl ?_
  intro p e s m_ args below meth c C hr hk
  show lm_St p l e ({ frames := 0, cells := 0, slots := 0, locals := 0 }) s m_ args below meth c D (fun _ => False) 2 0 0 (lm_EndR below (some (.int r)) args s) true (stW z a σ) 0 [(0, .ref (a 0)), (1, .int x1)] []
  rw [F_X4_isInBand] at hF
  refine lm_iload_n C dX4_isInBand_0 rfl 1 rfl rfl ?_
  refine lm_aload_n C dX4_isInBand_1 rfl 0 rfl rfl ?_
  refine lm_getf C (T := TX4) (N := 8) (v := .ref (a 15)) in4_X4_isInBand 0 rfl rfl 4 (by decide) fl44_X4_isInBand rfl rfl dX4_isInBand_2 rfl ?_
  refine lm_iconst C (v := (3 : Int32)) dX4_isInBand_5 (by decide) rfl ?_
  refine lm_iald C (v := (σ 15 3)) 15 rfl (by unfold vp_in; decide) rfl dX4_isInBand_6 rfl ?_
  refine lm_icmp_lt C (tgt := 24) dX4_isInBand_7 (by decide) rfl (fun c1 => ?_) (fun c1 => ?_)
  · have hF := lm_brt hF c1
    refine lm_iconst C (v := (0 : Int32)) dX4_isInBand_24 (by decide) rfl ?_
    cases hF
    exact lm_zretR C hr hk rfl rfl dX4_isInBand_25
  · have hF := lm_brf hF c1
    refine lm_iload_n C dX4_isInBand_10 rfl 1 rfl rfl ?_
    refine lm_aload_n C dX4_isInBand_11 rfl 0 rfl rfl ?_
    refine lm_getf C (T := TX4) (N := 8) (v := .ref (a 15)) in4_X4_isInBand 0 rfl rfl 4 (by decide) fl44_X4_isInBand rfl rfl dX4_isInBand_12 rfl ?_
    refine lm_iconst C (v := (4 : Int32)) dX4_isInBand_15 (by decide) rfl ?_
    refine lm_iald C (v := (σ 15 4)) 15 rfl (by unfold vp_in; decide) rfl dX4_isInBand_16 rfl ?_
    refine lm_icmp_gt C (tgt := 24) dX4_isInBand_17 (by decide) rfl (fun c2 => ?_) (fun c2 => ?_)
    · have hF := lm_brt hF c2
      refine lm_iconst C (v := (0 : Int32)) dX4_isInBand_24 (by decide) rfl ?_
      cases hF
      exact lm_zretR C hr hk rfl rfl dX4_isInBand_25
    · have hF := lm_brf hF c2
      refine lm_iconst C (v := (1 : Int32)) dX4_isInBand_20 (by decide) rfl ?_
      refine lm_goto C (tgt := 25) dX4_isInBand_21 (by decide) ?_
      cases hF
      exact lm_zretR C hr hk rfl rfl dX4_isInBand_25
def F_X4_isInRememberedAnswer (σ : Hp) (x1 : Int32) : Option Int32 :=
  lm_bd (F_X5_key (lm_sh 4 σ) x1) fun r1 =>
  lm_bd (F_X2_holds (lm_sh 11 σ) r1) fun r2 =>
  lm_br (r2 = 0)
   (some (0 : Int32))
   (lm_bd (F_X5_value (lm_sh 4 σ) x1) fun r4 =>
   lm_bd (F_X4_isInBand σ r4) fun r5 =>
   lm_br (r5 = 0)
    (some (0 : Int32))
    (some (1 : Int32)))
theorem in4_X4_isInRememberedAnswer : ∀ w ∈ u_ws RX4 TX4 8, w ∈ wsX4_isInRememberedAnswer := by decide +kernel
theorem fl31_X4_isInRememberedAnswer : Cond.fieldLink RX4 31 "LoopMemo$State" "memo" "LLoopMemo$Memo;" ∈ wsX4_isInRememberedAnswer := by decide +kernel
theorem fl18_X4_isInRememberedAnswer : Cond.fieldLink RX4 18 "LoopMemo$State" "inner" "LLoopMemo$Table;" ∈ wsX4_isInRememberedAnswer := by decide +kernel
set_option maxRecDepth 100000 in
set_option maxHeartbeats 4000000 in
theorem m_X4_isInRememberedAnswer (D : va_G) (z zo : ClassId) (l : Launch) (a : Nat → Nat) (σ : Hp) (x1 : Int32) (r : Int32)  (hF : F_X4_isInRememberedAnswer σ x1 = some r) : lm_CR D z zo l yX4_isInRememberedAnswer wsX4_isInRememberedAnswer 1 21 [.ref (a 0), .int x1] (stW z a σ) (some (.int r)) := by
  refine lm_CR.of (by decide) rfl (Nat.le_of_ble_eq_true rfl) (own := RX4) rfl ?_
  intro p e s m_ args below meth c C hr hk
  show lm_St p l e ({ frames := 1, cells := 0, slots := 0, locals := 21 }) s m_ args below meth c D (fun _ => False) 2 0 0 (lm_EndR below (some (.int r)) args s) true (stW z a σ) 0 [(0, .ref (a 0)), (1, .int x1)] []
  rw [F_X4_isInRememberedAnswer] at hF
  refine lm_aload_n C dX4_isInRememberedAnswer_0 rfl 0 rfl rfl ?_
  refine lm_getf C (T := TX4) (N := 8) (v := .ref (a 11)) in4_X4_isInRememberedAnswer 0 rfl rfl 3 (by decide) fl31_X4_isInRememberedAnswer rfl rfl dX4_isInRememberedAnswer_1 rfl ?_
  refine lm_aload_n C dX4_isInRememberedAnswer_4 rfl 0 rfl rfl ?_
  refine lm_getf C (T := TX4) (N := 8) (v := .ref (a 4)) in4_X4_isInRememberedAnswer 0 rfl rfl 1 (by decide) fl18_X4_isInRememberedAnswer rfl rfl dX4_isInRememberedAnswer_5 rfl ?_
  refine lm_iload_n C dX4_isInRememberedAnswer_8 rfl 1 rfl rfl ?_
  obtain ⟨r1, qr1, hF⟩ := lm_bde hF
  refine lm_callVR C (n := 1) (ci := 5) (m_X5_key D z zo l (lm_sh 4 a) (lm_sh 4 σ) x1 r1 qr1) gX4_isInRememberedAnswer_X5_key rfl (by decide +kernel) ⟨Nat.le_of_ble_eq_true rfl, Nat.le_of_ble_eq_true rfl⟩ ⟨Nat.le_of_ble_eq_true rfl, Nat.le_of_ble_eq_true rfl⟩ 4 rfl rfl (st_s4 z a σ) rfl rfl (Nat.le_of_ble_eq_true rfl) dX4_isInRememberedAnswer_9 (st' := [.int r1, .ref (a 11)]) rfl rfl ?_
  obtain ⟨r2, qr2, hF⟩ := lm_bde hF
  refine lm_callVR C (n := 1) (ci := 2) (m_X2_holds D z zo l (lm_sh 11 a) (lm_sh 11 σ) r1 r2 qr2) gX4_isInRememberedAnswer_X2_holds rfl (by decide +kernel) ⟨Nat.le_of_ble_eq_true rfl, Nat.le_of_ble_eq_true rfl⟩ ⟨Nat.le_of_ble_eq_true rfl, Nat.le_of_ble_eq_true rfl⟩ 11 rfl rfl (st_s11 z a σ) rfl rfl (Nat.le_of_ble_eq_true rfl) dX4_isInRememberedAnswer_12 (st' := [.int r2]) rfl rfl ?_
  refine lm_if_eq C (tgt := 37) dX4_isInRememberedAnswer_15 (by decide) rfl (fun c3 => ?_) (fun c3 => ?_)
  · have hF := lm_brt hF c3
    refine lm_iconst C (v := (0 : Int32)) dX4_isInRememberedAnswer_37 (by decide) rfl ?_
    cases hF
    exact lm_zretR C hr hk rfl rfl dX4_isInRememberedAnswer_38
  · have hF := lm_brf hF c3
    refine lm_aload_n C dX4_isInRememberedAnswer_18 rfl 0 rfl rfl ?_
    refine lm_aload_n C dX4_isInRememberedAnswer_19 rfl 0 rfl rfl ?_
    refine lm_getf C (T := TX4) (N := 8) (v := .ref (a 4)) in4_X4_isInRememberedAnswer 0 rfl rfl 1 (by decide) fl18_X4_isInRememberedAnswer rfl rfl dX4_isInRememberedAnswer_20 rfl ?_
    refine lm_iload_n C dX4_isInRememberedAnswer_23 rfl 1 rfl rfl ?_
    obtain ⟨r4, qr4, hF⟩ := lm_bde hF
    refine lm_callVR C (n := 1) (ci := 5) (m_X5_value D z zo l (lm_sh 4 a) (lm_sh 4 σ) x1 r4 qr4) gX4_isInRememberedAnswer_X5_value rfl (by decide +kernel) ⟨Nat.le_of_ble_eq_true rfl, Nat.le_of_ble_eq_true rfl⟩ ⟨Nat.le_of_ble_eq_true rfl, Nat.le_of_ble_eq_true rfl⟩ 4 rfl rfl (st_s4 z a σ) rfl rfl (Nat.le_of_ble_eq_true rfl) dX4_isInRememberedAnswer_24 (st' := [.int r4, .ref (a 0)]) rfl rfl ?_
    obtain ⟨r5, qr5, hF⟩ := lm_bde hF
    refine lm_callVR C (n := 1) (ci := 4) (m_X4_isInBand D z zo l a σ r4 r5 qr5) gX4_isInRememberedAnswer_X4_isInBand rfl (by decide +kernel) ⟨Nat.le_of_ble_eq_true rfl, Nat.le_of_ble_eq_true rfl⟩ ⟨Nat.le_of_ble_eq_true rfl, Nat.le_of_ble_eq_true rfl⟩ 0 rfl rfl (fun _ h => h) rfl rfl (Nat.le_of_ble_eq_true rfl) dX4_isInRememberedAnswer_27 (st' := [.int r5]) rfl rfl ?_
    refine lm_if_eq C (tgt := 37) dX4_isInRememberedAnswer_30 (by decide) rfl (fun c6 => ?_) (fun c6 => ?_)
    · have hF := lm_brt hF c6
      refine lm_iconst C (v := (0 : Int32)) dX4_isInRememberedAnswer_37 (by decide) rfl ?_
      cases hF
      exact lm_zretR C hr hk rfl rfl dX4_isInRememberedAnswer_38
    · have hF := lm_brf hF c6
      refine lm_iconst C (v := (1 : Int32)) dX4_isInRememberedAnswer_33 (by decide) rfl ?_
      refine lm_goto C (tgt := 38) dX4_isInRememberedAnswer_34 (by decide) ?_
      cases hF
      exact lm_zretR C hr hk rfl rfl dX4_isInRememberedAnswer_38
def F_X4_findAnswers (σ : Hp)  : Option (Hp) :=
  lm_bd (F_X0_find (lm_sh 7 σ) (lm_sh 4 σ) (σ 15 3) (σ 15 4)) fun τ1 =>
  lm_lt (lm_sb σ 7 4 τ1) fun σ2 =>
  some σ2
theorem in4_X4_findAnswers : ∀ w ∈ u_ws RX4 TX4 8, w ∈ wsX4_findAnswers := by decide +kernel
theorem fl24_X4_findAnswers : Cond.fieldLink RX4 24 "LoopMemo$State" "answers" "LLoopMemo$Answers;" ∈ wsX4_findAnswers := by decide +kernel
theorem fl18_X4_findAnswers : Cond.fieldLink RX4 18 "LoopMemo$State" "inner" "LLoopMemo$Table;" ∈ wsX4_findAnswers := by decide +kernel
theorem fl44_X4_findAnswers : Cond.fieldLink RX4 44 "LoopMemo$State" "settings" "[I" ∈ wsX4_findAnswers := by decide +kernel
set_option maxRecDepth 100000 in
set_option maxHeartbeats 4000000 in
theorem m_X4_findAnswers (D : va_G) (z zo : ClassId) (l : Launch) (a : Nat → Nat) (σ : Hp)   (σ' : Hp) (hF : F_X4_findAnswers σ  = some σ') : lm_C D z zo l yX4_findAnswers wsX4_findAnswers 2 47 [.ref (a 0)] (stW z a σ) none (stW z a σ') := by
  refine lm_C.of (by decide) rfl (Nat.le_of_ble_eq_true rfl) (own := RX4) rfl ?_
  intro p e s m_ args below meth c C hr hk hA
  show lm_St p l e ({ frames := 2, cells := 0, slots := 0, locals := 47 }) s m_ args below meth c D (va_A (stW z a σ) s.heap.size) 1 0 0 (lm_End below D none (stW z a σ) (stW z a σ') args s) false (stW z a σ) 0 [(0, .ref (a 0))] []
  rw [F_X4_findAnswers] at hF
  refine lm_aload_n C dX4_findAnswers_0 rfl 0 rfl rfl ?_
  refine lm_getf C (T := TX4) (N := 8) (v := .ref (a 7)) in4_X4_findAnswers 0 rfl rfl 2 (by decide) fl24_X4_findAnswers rfl rfl dX4_findAnswers_1 rfl ?_
  refine lm_aload_n C dX4_findAnswers_4 rfl 0 rfl rfl ?_
  refine lm_getf C (T := TX4) (N := 8) (v := .ref (a 4)) in4_X4_findAnswers 0 rfl rfl 1 (by decide) fl18_X4_findAnswers rfl rfl dX4_findAnswers_5 rfl ?_
  refine lm_aload_n C dX4_findAnswers_8 rfl 0 rfl rfl ?_
  refine lm_getf C (T := TX4) (N := 8) (v := .ref (a 15)) in4_X4_findAnswers 0 rfl rfl 4 (by decide) fl44_X4_findAnswers rfl rfl dX4_findAnswers_9 rfl ?_
  refine lm_iconst C (v := (3 : Int32)) dX4_findAnswers_12 (by decide) rfl ?_
  refine lm_iald C (v := (σ 15 3)) 15 rfl (by unfold vp_in; decide) rfl dX4_findAnswers_13 rfl ?_
  refine lm_aload_n C dX4_findAnswers_14 rfl 0 rfl rfl ?_
  refine lm_getf C (T := TX4) (N := 8) (v := .ref (a 15)) in4_X4_findAnswers 0 rfl rfl 4 (by decide) fl44_X4_findAnswers rfl rfl dX4_findAnswers_15 rfl ?_
  refine lm_iconst C (v := (4 : Int32)) dX4_findAnswers_18 (by decide) rfl ?_
  refine lm_iald C (v := (σ 15 4)) 15 rfl (by unfold vp_in; decide) rfl dX4_findAnswers_19 rfl ?_
  obtain ⟨τ1, qτ1, hF⟩ := lm_bde hF
  obtain ⟨σ2, eσ2, hF⟩ := lm_lte hF
  refine lm_callV C (n := 3) (ci := 0) (w' := (stW z a σ2)) hA (m_X0_find D z zo l (lm_sh 7 a) (lm_sh 4 a) (lm_sh 7 σ) (lm_sh 4 σ) (σ 15 3) (σ 15 4) τ1 qτ1) gX4_findAnswers_X0_find rfl (by decide +kernel) ⟨Nat.le_of_ble_eq_true rfl, Nat.le_of_ble_eq_true rfl⟩ ⟨Nat.le_of_ble_eq_true rfl, Nat.le_of_ble_eq_true rfl⟩ 7 rfl rfl (st_g74 z a σ) (by rw [← eσ2]; exact st_p74 z a σ τ1) rfl rfl (Nat.le_of_ble_eq_true rfl) dX4_findAnswers_20 (st' := []) rfl rfl ?_
  cases hF
  exact lm_vret C hr hk rfl rfl dX4_findAnswers_23
def F_X4_throwAllOut (σ : Hp)  : Option (Int32 × (Hp)) :=
  lm_b2 (F_X2_loseAll (lm_sh 11 σ)) fun r3 τ1 =>
  lm_lt (lm_sb σ 11 4 τ1) fun σ2 =>
  lm_lt (lm_u σ2 16 4 ((σ2 16 4) + r3)) fun σ4 =>
  some (r3, σ4)
theorem in4_X4_throwAllOut : ∀ w ∈ u_ws RX4 TX4 8, w ∈ wsX4_throwAllOut := by decide +kernel
theorem fl31_X4_throwAllOut : Cond.fieldLink RX4 31 "LoopMemo$State" "memo" "LLoopMemo$Memo;" ∈ wsX4_throwAllOut := by decide +kernel
theorem fl47_X4_throwAllOut : Cond.fieldLink RX4 47 "LoopMemo$State" "tallies" "[I" ∈ wsX4_throwAllOut := by decide +kernel
set_option maxRecDepth 100000 in
set_option maxHeartbeats 4000000 in
theorem m_X4_throwAllOut (D : va_G) (z zo : ClassId) (l : Launch) (a : Nat → Nat) (σ : Hp)  (r : Int32) (σ' : Hp) (hF : F_X4_throwAllOut σ  = some (r, σ')) : lm_C D z zo l yX4_throwAllOut wsX4_throwAllOut 2 44 [.ref (a 0)] (stW z a σ) (some (.int r)) (stW z a σ') := by
  refine lm_C.of (by decide) rfl (Nat.le_of_ble_eq_true rfl) (own := RX4) rfl ?_
  intro p e s m_ args below meth c C hr hk hA
  show lm_St p l e ({ frames := 2, cells := 0, slots := 0, locals := 44 }) s m_ args below meth c D (va_A (stW z a σ) s.heap.size) 2 0 0 (lm_End below D (some (.int r)) (stW z a σ) (stW z a σ') args s) false (stW z a σ) 0 [(0, .ref (a 0))] []
  rw [F_X4_throwAllOut] at hF
  refine lm_aload_n C dX4_throwAllOut_0 rfl 0 rfl rfl ?_
  refine lm_getf C (T := TX4) (N := 8) (v := .ref (a 11)) in4_X4_throwAllOut 0 rfl rfl 3 (by decide) fl31_X4_throwAllOut rfl rfl dX4_throwAllOut_1 rfl ?_
  obtain ⟨r3, τ1, qτ1, hF⟩ := lm_b2e hF
  obtain ⟨σ2, eσ2, hF⟩ := lm_lte hF
  refine lm_callV C (n := 0) (ci := 2) (w' := (stW z a σ2)) hA (m_X2_loseAll D z zo l (lm_sh 11 a) (lm_sh 11 σ)  r3 τ1 qτ1) gX4_throwAllOut_X2_loseAll rfl (by decide +kernel) ⟨Nat.le_of_ble_eq_true rfl, Nat.le_of_ble_eq_true rfl⟩ ⟨Nat.le_of_ble_eq_true rfl, Nat.le_of_ble_eq_true rfl⟩ 11 rfl rfl (st_g11 z a σ) (by rw [← eσ2]; exact st_p11 z a σ τ1) rfl rfl (Nat.le_of_ble_eq_true rfl) dX4_throwAllOut_4 (st' := [.int r3]) rfl rfl ?_
  refine lm_istore_n C (lv' := [(0, .ref (a 0)), (1, .int r3)]) dX4_throwAllOut_7 rfl (by decide) rfl [1, 0] rfl rfl ?_
  refine lm_aload_n C dX4_throwAllOut_8 rfl 0 rfl rfl ?_
  refine lm_getf C (T := TX4) (N := 8) (v := .ref (a 16)) in4_X4_throwAllOut 0 rfl rfl 5 (by decide) fl47_X4_throwAllOut rfl rfl dX4_throwAllOut_9 rfl ?_
  refine lm_iconst C (v := (4 : Int32)) dX4_throwAllOut_12 (by decide) rfl ?_
  refine lm_dup2 C dX4_throwAllOut_13 rfl rfl rfl ?_
  refine lm_iald C (v := (σ2 16 4)) 16 rfl (by unfold vp_in; decide) rfl dX4_throwAllOut_14 rfl ?_
  refine lm_iload_n C dX4_throwAllOut_15 rfl 1 rfl rfl ?_
  refine lm_iadd C dX4_throwAllOut_16 rfl rfl ?_
  obtain ⟨σ4, eσ4, hF⟩ := lm_lte hF
  refine lm_iast C (w' := (stW z a σ4)) 16 rfl (by unfold vp_in; decide) dX4_throwAllOut_17 (by rw [← eσ4]; rfl) rfl ?_
  refine lm_iload_n C dX4_throwAllOut_18 rfl 1 rfl rfl ?_
  cases hF
  exact lm_iret C hr hk rfl rfl dX4_throwAllOut_19
def F_X4_keepAnswerTrue (σ : Hp) (x1 : Int32) : Option (Hp) :=
  lm_bd (F_X2_holds (lm_sh 11 σ) x1) fun r1 =>
  lm_br (¬ r1 = 0)
   (lm_br (¬ (σ 15 2) = (2 : Int32))
    (lm_bd (F_X2_lose (lm_sh 11 σ) x1) fun τ4 =>
    lm_lt (lm_sb σ 11 4 τ4) fun σ5 =>
    lm_lt (lm_u σ5 16 4 ((σ5 16 4) + (1 : Int32))) fun σ6 =>
    some σ6)
    (lm_lt (lm_u σ 16 6 ((σ 16 6) + (1 : Int32))) fun σ7 =>
    some σ7))
   (some σ)
theorem in4_X4_keepAnswerTrue : ∀ w ∈ u_ws RX4 TX4 8, w ∈ wsX4_keepAnswerTrue := by decide +kernel
theorem fl31_X4_keepAnswerTrue : Cond.fieldLink RX4 31 "LoopMemo$State" "memo" "LLoopMemo$Memo;" ∈ wsX4_keepAnswerTrue := by decide +kernel
theorem fl44_X4_keepAnswerTrue : Cond.fieldLink RX4 44 "LoopMemo$State" "settings" "[I" ∈ wsX4_keepAnswerTrue := by decide +kernel
theorem fl47_X4_keepAnswerTrue : Cond.fieldLink RX4 47 "LoopMemo$State" "tallies" "[I" ∈ wsX4_keepAnswerTrue := by decide +kernel
set_option maxRecDepth 100000 in
set_option maxHeartbeats 4000000 in
theorem m_X4_keepAnswerTrue (D : va_G) (z zo : ClassId) (l : Launch) (a : Nat → Nat) (σ : Hp) (x1 : Int32)  (σ' : Hp) (hF : F_X4_keepAnswerTrue σ x1 = some σ') : lm_C D z zo l yX4_keepAnswerTrue wsX4_keepAnswerTrue 1 21 [.ref (a 0), .int x1] (stW z a σ) none (stW z a σ') := by
  refine lm_C.of (by decide) rfl (Nat.le_of_ble_eq_true rfl) (own := RX4) rfl ?_
  intro p e s m_ args below meth c C hr hk hA
  show lm_St p l e ({ frames := 1, cells := 0, slots := 0, locals := 21 }) s m_ args below meth c D (va_A (stW z a σ) s.heap.size) 2 0 0 (lm_End below D none (stW z a σ) (stW z a σ') args s) false (stW z a σ) 0 [(0, .ref (a 0)), (1, .int x1)] []
  rw [F_X4_keepAnswerTrue] at hF
  refine lm_aload_n C dX4_keepAnswerTrue_0 rfl 0 rfl rfl ?_
  refine lm_getf C (T := TX4) (N := 8) (v := .ref (a 11)) in4_X4_keepAnswerTrue 0 rfl rfl 3 (by decide) fl31_X4_keepAnswerTrue rfl rfl dX4_keepAnswerTrue_1 rfl ?_
  refine lm_iload_n C dX4_keepAnswerTrue_4 rfl 1 rfl rfl ?_
  obtain ⟨r1, qr1, hF⟩ := lm_bde hF
  refine lm_callVR C (n := 1) (ci := 2) (m_X2_holds D z zo l (lm_sh 11 a) (lm_sh 11 σ) x1 r1 qr1) gX4_keepAnswerTrue_X2_holds rfl (by decide +kernel) ⟨Nat.le_of_ble_eq_true rfl, Nat.le_of_ble_eq_true rfl⟩ ⟨Nat.le_of_ble_eq_true rfl, Nat.le_of_ble_eq_true rfl⟩ 11 rfl rfl (st_s11 z a σ) rfl rfl (Nat.le_of_ble_eq_true rfl) dX4_keepAnswerTrue_5 (st' := [.int r1]) rfl rfl ?_
  refine lm_if_ne C (tgt := 12) dX4_keepAnswerTrue_8 (by decide) rfl (fun c2 => ?_) (fun c2 => ?_)
  · have hF := lm_brt hF c2
    refine lm_aload_n C dX4_keepAnswerTrue_12 rfl 0 rfl rfl ?_
    refine lm_getf C (T := TX4) (N := 8) (v := .ref (a 15)) in4_X4_keepAnswerTrue 0 rfl rfl 4 (by decide) fl44_X4_keepAnswerTrue rfl rfl dX4_keepAnswerTrue_13 rfl ?_
    refine lm_iconst C (v := (2 : Int32)) dX4_keepAnswerTrue_16 (by decide) rfl ?_
    refine lm_iald C (v := (σ 15 2)) 15 rfl (by unfold vp_in; decide) rfl dX4_keepAnswerTrue_17 rfl ?_
    refine lm_iconst C (v := (2 : Int32)) dX4_keepAnswerTrue_18 (by decide) rfl ?_
    refine lm_icmp_ne C (tgt := 36) dX4_keepAnswerTrue_19 (by decide) rfl (fun c3 => ?_) (fun c3 => ?_)
    · have hF := lm_brt hF c3
      refine lm_aload_n C dX4_keepAnswerTrue_36 rfl 0 rfl rfl ?_
      refine lm_getf C (T := TX4) (N := 8) (v := .ref (a 11)) in4_X4_keepAnswerTrue 0 rfl rfl 3 (by decide) fl31_X4_keepAnswerTrue rfl rfl dX4_keepAnswerTrue_37 rfl ?_
      refine lm_iload_n C dX4_keepAnswerTrue_40 rfl 1 rfl rfl ?_
      obtain ⟨τ4, qτ4, hF⟩ := lm_bde hF
      obtain ⟨σ5, eσ5, hF⟩ := lm_lte hF
      refine lm_callV C (n := 1) (ci := 2) (w' := (stW z a σ5)) hA (m_X2_lose D z zo l (lm_sh 11 a) (lm_sh 11 σ) x1 τ4 qτ4) gX4_keepAnswerTrue_X2_lose rfl (by decide +kernel) ⟨Nat.le_of_ble_eq_true rfl, Nat.le_of_ble_eq_true rfl⟩ ⟨Nat.le_of_ble_eq_true rfl, Nat.le_of_ble_eq_true rfl⟩ 11 rfl rfl (st_g11 z a σ) (by rw [← eσ5]; exact st_p11 z a σ τ4) rfl rfl (Nat.le_of_ble_eq_true rfl) dX4_keepAnswerTrue_41 (st' := []) rfl rfl ?_
      refine lm_aload_n C dX4_keepAnswerTrue_44 rfl 0 rfl rfl ?_
      refine lm_getf C (T := TX4) (N := 8) (v := .ref (a 16)) in4_X4_keepAnswerTrue 0 rfl rfl 5 (by decide) fl47_X4_keepAnswerTrue rfl rfl dX4_keepAnswerTrue_45 rfl ?_
      refine lm_iconst C (v := (4 : Int32)) dX4_keepAnswerTrue_48 (by decide) rfl ?_
      refine lm_dup2 C dX4_keepAnswerTrue_49 rfl rfl rfl ?_
      refine lm_iald C (v := (σ5 16 4)) 16 rfl (by unfold vp_in; decide) rfl dX4_keepAnswerTrue_50 rfl ?_
      refine lm_iconst C (v := (1 : Int32)) dX4_keepAnswerTrue_51 (by decide) rfl ?_
      refine lm_iadd C dX4_keepAnswerTrue_52 rfl rfl ?_
      obtain ⟨σ6, eσ6, hF⟩ := lm_lte hF
      refine lm_iast C (w' := (stW z a σ6)) 16 rfl (by unfold vp_in; decide) dX4_keepAnswerTrue_53 (by rw [← eσ6]; rfl) rfl ?_
      cases hF
      exact lm_vret C hr hk rfl rfl dX4_keepAnswerTrue_54
    · have hF := lm_brf hF c3
      refine lm_aload_n C dX4_keepAnswerTrue_22 rfl 0 rfl rfl ?_
      refine lm_getf C (T := TX4) (N := 8) (v := .ref (a 16)) in4_X4_keepAnswerTrue 0 rfl rfl 5 (by decide) fl47_X4_keepAnswerTrue rfl rfl dX4_keepAnswerTrue_23 rfl ?_
      refine lm_bipush C (v := (6 : Int32)) dX4_keepAnswerTrue_26 (by decide) rfl ?_
      refine lm_dup2 C dX4_keepAnswerTrue_28 rfl rfl rfl ?_
      refine lm_iald C (v := (σ 16 6)) 16 rfl (by unfold vp_in; decide) rfl dX4_keepAnswerTrue_29 rfl ?_
      refine lm_iconst C (v := (1 : Int32)) dX4_keepAnswerTrue_30 (by decide) rfl ?_
      refine lm_iadd C dX4_keepAnswerTrue_31 rfl rfl ?_
      obtain ⟨σ7, eσ7, hF⟩ := lm_lte hF
      refine lm_iast C (w' := (stW z a σ7)) 16 rfl (by unfold vp_in; decide) dX4_keepAnswerTrue_32 (by rw [← eσ7]; rfl) rfl ?_
      refine lm_goto C (tgt := 54) dX4_keepAnswerTrue_33 (by decide) ?_
      cases hF
      exact lm_vret C hr hk rfl rfl dX4_keepAnswerTrue_54
  · have hF := lm_brf hF c2
    cases hF
    exact lm_vret C hr hk rfl rfl dX4_keepAnswerTrue_11
def F_X4_keepTrue (σ : Hp) (x1 x2 : Int32) : Option (Hp) :=
  lm_bd (F_X4_findAnswers σ) fun σ1 =>
  lm_br (¬ (σ1 15 2) = (1 : Int32))
   (lm_bd (F_X4_keepAnswerTrue σ1 x1) fun σ3 =>
   lm_br (x2 = x1)
    (some σ3)
    (lm_bd (F_X4_keepAnswerTrue σ3 x2) fun σ5 =>
    some σ5))
   (lm_b2 (F_X4_throwAllOut σ1) fun r7 σ6 =>
   some σ6)
theorem in4_X4_keepTrue : ∀ w ∈ u_ws RX4 TX4 8, w ∈ wsX4_keepTrue := by decide +kernel
theorem fl44_X4_keepTrue : Cond.fieldLink RX4 44 "LoopMemo$State" "settings" "[I" ∈ wsX4_keepTrue := by decide +kernel
set_option maxRecDepth 100000 in
set_option maxHeartbeats 4000000 in
theorem m_X4_keepTrue (D : va_G) (z zo : ClassId) (l : Launch) (a : Nat → Nat) (σ : Hp) (x1 x2 : Int32)  (σ' : Hp) (hF : F_X4_keepTrue σ x1 x2 = some σ') : lm_C D z zo l yX4_keepTrue wsX4_keepTrue 3 67 [.ref (a 0), .int x1, .int x2] (stW z a σ) none (stW z a σ') := by
  refine lm_C.of (by decide) rfl (Nat.le_of_ble_eq_true rfl) (own := RX4) rfl ?_
  intro p e s m_ args below meth c C hr hk hA
  show lm_St p l e ({ frames := 3, cells := 0, slots := 0, locals := 67 }) s m_ args below meth c D (va_A (stW z a σ) s.heap.size) 3 0 0 (lm_End below D none (stW z a σ) (stW z a σ') args s) false (stW z a σ) 0 [(0, .ref (a 0)), (1, .int x1), (2, .int x2)] []
  rw [F_X4_keepTrue] at hF
  refine lm_aload_n C dX4_keepTrue_0 rfl 0 rfl rfl ?_
  obtain ⟨σ1, qσ1, hF⟩ := lm_bde hF
  refine lm_callV C (n := 0) (ci := 4) (w' := (stW z a σ1)) hA (m_X4_findAnswers D z zo l a σ  σ1 qσ1) gX4_keepTrue_X4_findAnswers rfl (by decide +kernel) ⟨Nat.le_of_ble_eq_true rfl, Nat.le_of_ble_eq_true rfl⟩ ⟨Nat.le_of_ble_eq_true rfl, Nat.le_of_ble_eq_true rfl⟩ 0 rfl rfl lm_pr lm_pr' rfl rfl (Nat.le_of_ble_eq_true rfl) dX4_keepTrue_1 (st' := []) rfl rfl ?_
  refine lm_aload_n C dX4_keepTrue_4 rfl 0 rfl rfl ?_
  refine lm_getf C (T := TX4) (N := 8) (v := .ref (a 15)) in4_X4_keepTrue 0 rfl rfl 4 (by decide) fl44_X4_keepTrue rfl rfl dX4_keepTrue_5 rfl ?_
  refine lm_iconst C (v := (2 : Int32)) dX4_keepTrue_8 (by decide) rfl ?_
  refine lm_iald C (v := (σ1 15 2)) 15 rfl (by unfold vp_in; decide) rfl dX4_keepTrue_9 rfl ?_
  refine lm_iconst C (v := (1 : Int32)) dX4_keepTrue_10 (by decide) rfl ?_
  refine lm_icmp_ne C (tgt := 20) dX4_keepTrue_11 (by decide) rfl (fun c2 => ?_) (fun c2 => ?_)
  · have hF := lm_brt hF c2
    refine lm_aload_n C dX4_keepTrue_20 rfl 0 rfl rfl ?_
    refine lm_iload_n C dX4_keepTrue_21 rfl 1 rfl rfl ?_
    obtain ⟨σ3, qσ3, hF⟩ := lm_bde hF
    refine lm_callV C (n := 1) (ci := 4) (w' := (stW z a σ3)) hA (m_X4_keepAnswerTrue D z zo l a σ1 x1 σ3 qσ3) gX4_keepTrue_X4_keepAnswerTrue rfl (by decide +kernel) ⟨Nat.le_of_ble_eq_true rfl, Nat.le_of_ble_eq_true rfl⟩ ⟨Nat.le_of_ble_eq_true rfl, Nat.le_of_ble_eq_true rfl⟩ 0 rfl rfl lm_pr lm_pr' rfl rfl (Nat.le_of_ble_eq_true rfl) dX4_keepTrue_22 (st' := []) rfl rfl ?_
    refine lm_iload_n C dX4_keepTrue_25 rfl 2 rfl rfl ?_
    refine lm_iload_n C dX4_keepTrue_26 rfl 1 rfl rfl ?_
    refine lm_icmp_eq C (tgt := 35) dX4_keepTrue_27 (by decide) rfl (fun c4 => ?_) (fun c4 => ?_)
    · have hF := lm_brt hF c4
      cases hF
      exact lm_vret C hr hk rfl rfl dX4_keepTrue_35
    · have hF := lm_brf hF c4
      refine lm_aload_n C dX4_keepTrue_30 rfl 0 rfl rfl ?_
      refine lm_iload_n C dX4_keepTrue_31 rfl 2 rfl rfl ?_
      obtain ⟨σ5, qσ5, hF⟩ := lm_bde hF
      refine lm_callV C (n := 1) (ci := 4) (w' := (stW z a σ5)) hA (m_X4_keepAnswerTrue D z zo l a σ3 x2 σ5 qσ5) gX4_keepTrue_X4_keepAnswerTrue rfl (by decide +kernel) ⟨Nat.le_of_ble_eq_true rfl, Nat.le_of_ble_eq_true rfl⟩ ⟨Nat.le_of_ble_eq_true rfl, Nat.le_of_ble_eq_true rfl⟩ 0 rfl rfl lm_pr lm_pr' rfl rfl (Nat.le_of_ble_eq_true rfl) dX4_keepTrue_32 (st' := []) rfl rfl ?_
      cases hF
      exact lm_vret C hr hk rfl rfl dX4_keepTrue_35
  · have hF := lm_brf hF c2
    refine lm_aload_n C dX4_keepTrue_14 rfl 0 rfl rfl ?_
    obtain ⟨r7, σ6, qσ6, hF⟩ := lm_b2e hF
    refine lm_callV C (n := 0) (ci := 4) (w' := (stW z a σ6)) hA (m_X4_throwAllOut D z zo l a σ1  r7 σ6 qσ6) gX4_keepTrue_X4_throwAllOut rfl (by decide +kernel) ⟨Nat.le_of_ble_eq_true rfl, Nat.le_of_ble_eq_true rfl⟩ ⟨Nat.le_of_ble_eq_true rfl, Nat.le_of_ble_eq_true rfl⟩ 0 rfl rfl lm_pr lm_pr' rfl rfl (Nat.le_of_ble_eq_true rfl) dX4_keepTrue_15 (st' := [.int r7]) rfl rfl ?_
    refine lm_pop C dX4_keepTrue_18 rfl rfl ?_
    cases hF
    exact lm_vret C hr hk rfl rfl dX4_keepTrue_19
def F_X4_insertRow (σ : Hp) (x1 x2 x3 : Int32) : Option (Int32 × (Hp)) :=
  lm_bd (F_X6_isRow x2 x3) fun r1 =>
  lm_br (¬ r1 = 0)
   (lm_br (x1 = 0)
    (lm_bd (F_X5_size (lm_sh 1 σ)) fun r4 =>
    lm_br (r4 < (20 : Int32))
     (lm_bd (F_X5_push (lm_sh 1 σ) x2 x3) fun τ6 =>
     lm_lt (lm_sb σ 1 3 τ6) fun σ7 =>
     lm_bd (F_X5_size (lm_sh 1 σ7)) fun r9 =>
     some ((r9 - (1 : Int32)), σ7))
     (some ((-3 : Int32), σ)))
    (lm_bd (F_X5_size (lm_sh 4 σ)) fun r10 =>
    lm_br (r10 < (20 : Int32))
     (lm_bd (F_X5_push (lm_sh 4 σ) x2 x3) fun τ12 =>
     lm_lt (lm_sb σ 4 3 τ12) fun σ13 =>
     lm_bd (F_X4_keepTrue σ13 x2 x2) fun σ15 =>
     lm_bd (F_X5_size (lm_sh 4 σ15)) fun r16 =>
     some ((r16 - (1 : Int32)), σ15))
     (some ((-3 : Int32), σ))))
   (some ((-1 : Int32), σ))
theorem ini_X6_isRow_X4_insertRow : Cond.initialized yX6_isRow.cls ∈ wsX4_insertRow := by decide +kernel
theorem sta_X6_isRow_X4_insertRow : Cond.static yX6_isRow ∈ wsX4_insertRow := by decide +kernel
set_option maxRecDepth 100000 in
set_option maxHeartbeats 4000000 in
theorem m_X4_insertRow (D : va_G) (z zo : ClassId) (l : Launch) (a : Nat → Nat) (σ : Hp) (x1 x2 x3 : Int32) (r : Int32) (σ' : Hp) (hF : F_X4_insertRow σ x1 x2 x3 = some (r, σ')) : lm_C D z zo l yX4_insertRow wsX4_insertRow 4 89 [.ref (a 0), .int x1, .int x2, .int x3] (stW z a σ) (some (.int r)) (stW z a σ') := by
  refine lm_C.of (by decide) rfl (Nat.le_of_ble_eq_true rfl) (own := RX4) rfl ?_
  intro p e s m_ args below meth c C hr hk hA
  show lm_St p l e ({ frames := 4, cells := 0, slots := 0, locals := 89 }) s m_ args below meth c D (va_A (stW z a σ) s.heap.size) 5 0 0 (lm_End below D (some (.int r)) (stW z a σ) (stW z a σ') args s) false (stW z a σ) 0 [(0, .ref (a 0)), (1, .int x1), (2, .int x2), (3, .int x3)] []
  rw [F_X4_insertRow] at hF
  refine lm_iload_n C dX4_insertRow_0 rfl 2 rfl rfl ?_
  refine lm_iload_n C dX4_insertRow_1 rfl 3 rfl rfl ?_
  obtain ⟨r1, qr1, hF⟩ := lm_bde hF
  refine lm_callSNR C (n := 2) (m_X6_isRow D z zo l   x2 x3 r1 qr1) gX4_insertRow_X6_isRow_n85 rfl ini_X6_isRow_X4_insertRow sta_X6_isRow_X4_insertRow (by decide +kernel) ⟨Nat.le_of_ble_eq_true rfl, Nat.le_of_ble_eq_true rfl⟩ ⟨Nat.le_of_ble_eq_true rfl, Nat.le_of_ble_eq_true rfl⟩ (by decide +kernel) (fun _ h => absurd h List.not_mem_nil) rfl rfl (Nat.le_of_ble_eq_true rfl) dX4_insertRow_2 (st' := [.int r1]) rfl rfl ?_
  refine lm_if_ne C (tgt := 10) dX4_insertRow_5 (by decide) rfl (fun c2 => ?_) (fun c2 => ?_)
  · have hF := lm_brt hF c2
    refine lm_aload_n C dX4_insertRow_10 rfl 0 rfl rfl ?_
    refine lm_iload_n C dX4_insertRow_11 rfl 1 rfl rfl ?_
    rcases Classical.em (x1 = 0) with c3 | c3
    · have hF := lm_brt hF c3
      refine lm_callVR C (n := 1) (ci := 4) (m_X4_table_1 D z zo l a σ x1 c3) gX4_insertRow_X4_table rfl (by decide +kernel) ⟨Nat.le_of_ble_eq_true rfl, Nat.le_of_ble_eq_true rfl⟩ ⟨Nat.le_of_ble_eq_true rfl, Nat.le_of_ble_eq_true rfl⟩ 0 rfl rfl (fun _ h => h) rfl rfl (Nat.le_of_ble_eq_true rfl) dX4_insertRow_12 (st' := [.ref (a 1)]) rfl rfl ?_
      refine lm_astore C (lv' := [(0, .ref (a 0)), (1, .int x1), (2, .int x2), (3, .int x3), (4, .ref (a 1))]) dX4_insertRow_15 (by decide) rfl [1, 2, 3, 4, 0] rfl rfl ?_
      refine lm_aload C dX4_insertRow_17 4 rfl rfl ?_
      obtain ⟨r4, qr4, hF⟩ := lm_bde hF
      refine lm_callVR C (n := 0) (ci := 5) (m_X5_size D z zo l (lm_sh 1 a) (lm_sh 1 σ)  r4 qr4) gX4_insertRow_X5_size rfl (by decide +kernel) ⟨Nat.le_of_ble_eq_true rfl, Nat.le_of_ble_eq_true rfl⟩ ⟨Nat.le_of_ble_eq_true rfl, Nat.le_of_ble_eq_true rfl⟩ 1 rfl rfl (st_s1 z a σ) rfl rfl (Nat.le_of_ble_eq_true rfl) dX4_insertRow_19 (st' := [.int r4]) rfl rfl ?_
      refine lm_bipush C (v := (20 : Int32)) dX4_insertRow_22 (by decide) rfl ?_
      refine lm_icmp_lt C (tgt := 30) dX4_insertRow_24 (by decide) rfl (fun c5 => ?_) (fun c5 => ?_)
      · have hF := lm_brt hF c5
        refine lm_aload C dX4_insertRow_30 4 rfl rfl ?_
        refine lm_iload_n C dX4_insertRow_32 rfl 2 rfl rfl ?_
        refine lm_iload_n C dX4_insertRow_33 rfl 3 rfl rfl ?_
        obtain ⟨τ6, qτ6, hF⟩ := lm_bde hF
        obtain ⟨σ7, eσ7, hF⟩ := lm_lte hF
        refine lm_callV C (n := 2) (ci := 5) (w' := (stW z a σ7)) hA (m_X5_push D z zo l (lm_sh 1 a) (lm_sh 1 σ) x2 x3 τ6 qτ6) gX4_insertRow_X5_push rfl (by decide +kernel) ⟨Nat.le_of_ble_eq_true rfl, Nat.le_of_ble_eq_true rfl⟩ ⟨Nat.le_of_ble_eq_true rfl, Nat.le_of_ble_eq_true rfl⟩ 1 rfl rfl (st_g1 z a σ) (by rw [← eσ7]; exact st_p1 z a σ τ6) rfl rfl (Nat.le_of_ble_eq_true rfl) dX4_insertRow_34 (st' := []) rfl rfl ?_
        refine lm_iload_n C dX4_insertRow_37 rfl 1 rfl rfl ?_
        refine lm_if_eq C (tgt := 47) dX4_insertRow_38 (by decide) rfl (fun c8 => ?_) (fun c8 => ?_)
        · refine lm_aload C dX4_insertRow_47 4 rfl rfl ?_
          obtain ⟨r9, qr9, hF⟩ := lm_bde hF
          refine lm_callVR C (n := 0) (ci := 5) (m_X5_size D z zo l (lm_sh 1 a) (lm_sh 1 σ7)  r9 qr9) gX4_insertRow_X5_size rfl (by decide +kernel) ⟨Nat.le_of_ble_eq_true rfl, Nat.le_of_ble_eq_true rfl⟩ ⟨Nat.le_of_ble_eq_true rfl, Nat.le_of_ble_eq_true rfl⟩ 1 rfl rfl (st_s1 z a σ7) rfl rfl (Nat.le_of_ble_eq_true rfl) dX4_insertRow_49 (st' := [.int r9]) rfl rfl ?_
          refine lm_iconst C (v := (1 : Int32)) dX4_insertRow_52 (by decide) rfl ?_
          refine lm_isub C dX4_insertRow_53 rfl rfl ?_
          cases hF
          exact lm_iret C hr hk rfl rfl dX4_insertRow_54
        · exact (by simp_all : False).elim
      · have hF := lm_brf hF c5
        refine lm_bipush C (v := (-3 : Int32)) dX4_insertRow_27 (by decide) rfl ?_
        cases hF
        exact lm_iret C hr hk rfl rfl dX4_insertRow_29
    · have hF := lm_brf hF c3
      refine lm_callVR C (n := 1) (ci := 4) (m_X4_table_2 D z zo l a σ x1 c3) gX4_insertRow_X4_table rfl (by decide +kernel) ⟨Nat.le_of_ble_eq_true rfl, Nat.le_of_ble_eq_true rfl⟩ ⟨Nat.le_of_ble_eq_true rfl, Nat.le_of_ble_eq_true rfl⟩ 0 rfl rfl (fun _ h => h) rfl rfl (Nat.le_of_ble_eq_true rfl) dX4_insertRow_12 (st' := [.ref (a 4)]) rfl rfl ?_
      refine lm_astore C (lv' := [(0, .ref (a 0)), (1, .int x1), (2, .int x2), (3, .int x3), (4, .ref (a 4))]) dX4_insertRow_15 (by decide) rfl [1, 2, 3, 4, 0] rfl rfl ?_
      refine lm_aload C dX4_insertRow_17 4 rfl rfl ?_
      obtain ⟨r10, qr10, hF⟩ := lm_bde hF
      refine lm_callVR C (n := 0) (ci := 5) (m_X5_size D z zo l (lm_sh 4 a) (lm_sh 4 σ)  r10 qr10) gX4_insertRow_X5_size rfl (by decide +kernel) ⟨Nat.le_of_ble_eq_true rfl, Nat.le_of_ble_eq_true rfl⟩ ⟨Nat.le_of_ble_eq_true rfl, Nat.le_of_ble_eq_true rfl⟩ 4 rfl rfl (st_s4 z a σ) rfl rfl (Nat.le_of_ble_eq_true rfl) dX4_insertRow_19 (st' := [.int r10]) rfl rfl ?_
      refine lm_bipush C (v := (20 : Int32)) dX4_insertRow_22 (by decide) rfl ?_
      refine lm_icmp_lt C (tgt := 30) dX4_insertRow_24 (by decide) rfl (fun c11 => ?_) (fun c11 => ?_)
      · have hF := lm_brt hF c11
        refine lm_aload C dX4_insertRow_30 4 rfl rfl ?_
        refine lm_iload_n C dX4_insertRow_32 rfl 2 rfl rfl ?_
        refine lm_iload_n C dX4_insertRow_33 rfl 3 rfl rfl ?_
        obtain ⟨τ12, qτ12, hF⟩ := lm_bde hF
        obtain ⟨σ13, eσ13, hF⟩ := lm_lte hF
        refine lm_callV C (n := 2) (ci := 5) (w' := (stW z a σ13)) hA (m_X5_push D z zo l (lm_sh 4 a) (lm_sh 4 σ) x2 x3 τ12 qτ12) gX4_insertRow_X5_push rfl (by decide +kernel) ⟨Nat.le_of_ble_eq_true rfl, Nat.le_of_ble_eq_true rfl⟩ ⟨Nat.le_of_ble_eq_true rfl, Nat.le_of_ble_eq_true rfl⟩ 4 rfl rfl (st_g4 z a σ) (by rw [← eσ13]; exact st_p4 z a σ τ12) rfl rfl (Nat.le_of_ble_eq_true rfl) dX4_insertRow_34 (st' := []) rfl rfl ?_
        refine lm_iload_n C dX4_insertRow_37 rfl 1 rfl rfl ?_
        refine lm_if_eq C (tgt := 47) dX4_insertRow_38 (by decide) rfl (fun c14 => ?_) (fun c14 => ?_)
        · exact (by simp_all : False).elim
        · refine lm_aload_n C dX4_insertRow_41 rfl 0 rfl rfl ?_
          refine lm_iload_n C dX4_insertRow_42 rfl 2 rfl rfl ?_
          refine lm_iload_n C dX4_insertRow_43 rfl 2 rfl rfl ?_
          obtain ⟨σ15, qσ15, hF⟩ := lm_bde hF
          refine lm_callV C (n := 2) (ci := 4) (w' := (stW z a σ15)) hA (m_X4_keepTrue D z zo l a σ13 x2 x2 σ15 qσ15) gX4_insertRow_X4_keepTrue rfl (by decide +kernel) ⟨Nat.le_of_ble_eq_true rfl, Nat.le_of_ble_eq_true rfl⟩ ⟨Nat.le_of_ble_eq_true rfl, Nat.le_of_ble_eq_true rfl⟩ 0 rfl rfl lm_pr lm_pr' rfl rfl (Nat.le_of_ble_eq_true rfl) dX4_insertRow_44 (st' := []) rfl rfl ?_
          refine lm_aload C dX4_insertRow_47 4 rfl rfl ?_
          obtain ⟨r16, qr16, hF⟩ := lm_bde hF
          refine lm_callVR C (n := 0) (ci := 5) (m_X5_size D z zo l (lm_sh 4 a) (lm_sh 4 σ15)  r16 qr16) gX4_insertRow_X5_size rfl (by decide +kernel) ⟨Nat.le_of_ble_eq_true rfl, Nat.le_of_ble_eq_true rfl⟩ ⟨Nat.le_of_ble_eq_true rfl, Nat.le_of_ble_eq_true rfl⟩ 4 rfl rfl (st_s4 z a σ15) rfl rfl (Nat.le_of_ble_eq_true rfl) dX4_insertRow_49 (st' := [.int r16]) rfl rfl ?_
          refine lm_iconst C (v := (1 : Int32)) dX4_insertRow_52 (by decide) rfl ?_
          refine lm_isub C dX4_insertRow_53 rfl rfl ?_
          cases hF
          exact lm_iret C hr hk rfl rfl dX4_insertRow_54
      · have hF := lm_brf hF c11
        refine lm_bipush C (v := (-3 : Int32)) dX4_insertRow_27 (by decide) rfl ?_
        cases hF
        exact lm_iret C hr hk rfl rfl dX4_insertRow_29
  · have hF := lm_brf hF c2
    refine lm_iconst C (v := (-1 : Int32)) dX4_insertRow_8 (by decide) rfl ?_
    cases hF
    exact lm_iret C hr hk rfl rfl dX4_insertRow_9
def F_X4_removeRow (σ : Hp) (x1 x2 : Int32) : Option (Int32 × (Hp)) :=
  lm_br (x1 = 0)
   (lm_bd (F_X5_has (lm_sh 1 σ) x2) fun r2 =>
   lm_br (¬ r2 = 0)
    (lm_bd (F_X5_key (lm_sh 1 σ) x2) fun r4 =>
    lm_bd (F_X5_takeOut (lm_sh 1 σ) x2) fun τ5 =>
    lm_lt (lm_sb σ 1 3 τ5) fun σ6 =>
    lm_bd (F_X4_isDone σ6 x2) fun r8 =>
    lm_br (r8 = 0)
     (lm_bd (F_X5_size (lm_sh 1 σ6)) fun r10 =>
     some (r10, σ6))
     (lm_lt (lm_u σ6 0 6 ((σ6 0 6) - (1 : Int32))) fun σ11 =>
     lm_bd (F_X5_size (lm_sh 1 σ11)) fun r12 =>
     some (r12, σ11)))
    (some ((-1 : Int32), σ)))
   (lm_bd (F_X5_has (lm_sh 4 σ) x2) fun r13 =>
   lm_br (¬ r13 = 0)
    (lm_bd (F_X5_key (lm_sh 4 σ) x2) fun r15 =>
    lm_bd (F_X5_takeOut (lm_sh 4 σ) x2) fun τ16 =>
    lm_lt (lm_sb σ 4 3 τ16) fun σ17 =>
    lm_bd (F_X4_keepTrue σ17 r15 r15) fun σ19 =>
    lm_bd (F_X5_size (lm_sh 4 σ19)) fun r20 =>
    some (r20, σ19))
    (some ((-1 : Int32), σ)))
theorem in4_X4_removeRow : ∀ w ∈ u_ws RX4 TX4 8, w ∈ wsX4_removeRow := by decide +kernel
theorem fl64_X4_removeRow : Cond.fieldLink RX4 64 "LoopMemo$State" "place" "I" ∈ wsX4_removeRow := by decide +kernel
set_option maxRecDepth 100000 in
set_option maxHeartbeats 4000000 in
theorem m_X4_removeRow (D : va_G) (z zo : ClassId) (l : Launch) (a : Nat → Nat) (σ : Hp) (x1 x2 : Int32) (r : Int32) (σ' : Hp) (hF : F_X4_removeRow σ x1 x2 = some (r, σ')) : lm_C D z zo l yX4_removeRow wsX4_removeRow 4 89 [.ref (a 0), .int x1, .int x2] (stW z a σ) (some (.int r)) (stW z a σ') := by
  refine lm_C.of (by decide) rfl (Nat.le_of_ble_eq_true rfl) (own := RX4) rfl ?_
  intro p e s m_ args below meth c C hr hk hA
  show lm_St p l e ({ frames := 4, cells := 0, slots := 0, locals := 89 }) s m_ args below meth c D (va_A (stW z a σ) s.heap.size) 5 0 0 (lm_End below D (some (.int r)) (stW z a σ) (stW z a σ') args s) false (stW z a σ) 0 [(0, .ref (a 0)), (1, .int x1), (2, .int x2)] []
  rw [F_X4_removeRow] at hF
  refine lm_aload_n C dX4_removeRow_0 rfl 0 rfl rfl ?_
  refine lm_iload_n C dX4_removeRow_1 rfl 1 rfl rfl ?_
  rcases Classical.em (x1 = 0) with c1 | c1
  · have hF := lm_brt hF c1
    refine lm_callVR C (n := 1) (ci := 4) (m_X4_table_1 D z zo l a σ x1 c1) gX4_removeRow_X4_table rfl (by decide +kernel) ⟨Nat.le_of_ble_eq_true rfl, Nat.le_of_ble_eq_true rfl⟩ ⟨Nat.le_of_ble_eq_true rfl, Nat.le_of_ble_eq_true rfl⟩ 0 rfl rfl (fun _ h => h) rfl rfl (Nat.le_of_ble_eq_true rfl) dX4_removeRow_2 (st' := [.ref (a 1)]) rfl rfl ?_
    refine lm_astore_n C (lv' := [(0, .ref (a 0)), (1, .int x1), (2, .int x2), (3, .ref (a 1))]) dX4_removeRow_5 rfl (by decide) rfl [1, 2, 3, 0] rfl rfl ?_
    refine lm_aload_n C dX4_removeRow_6 rfl 3 rfl rfl ?_
    refine lm_iload_n C dX4_removeRow_7 rfl 2 rfl rfl ?_
    obtain ⟨r2, qr2, hF⟩ := lm_bde hF
    refine lm_callVR C (n := 1) (ci := 5) (m_X5_has D z zo l (lm_sh 1 a) (lm_sh 1 σ) x2 r2 qr2) gX4_removeRow_X5_has rfl (by decide +kernel) ⟨Nat.le_of_ble_eq_true rfl, Nat.le_of_ble_eq_true rfl⟩ ⟨Nat.le_of_ble_eq_true rfl, Nat.le_of_ble_eq_true rfl⟩ 1 rfl rfl (st_s1 z a σ) rfl rfl (Nat.le_of_ble_eq_true rfl) dX4_removeRow_8 (st' := [.int r2]) rfl rfl ?_
    refine lm_if_ne C (tgt := 16) dX4_removeRow_11 (by decide) rfl (fun c3 => ?_) (fun c3 => ?_)
    · have hF := lm_brt hF c3
      refine lm_aload_n C dX4_removeRow_16 rfl 3 rfl rfl ?_
      refine lm_iload_n C dX4_removeRow_17 rfl 2 rfl rfl ?_
      obtain ⟨r4, qr4, hF⟩ := lm_bde hF
      refine lm_callVR C (n := 1) (ci := 5) (m_X5_key D z zo l (lm_sh 1 a) (lm_sh 1 σ) x2 r4 qr4) gX4_removeRow_X5_key rfl (by decide +kernel) ⟨Nat.le_of_ble_eq_true rfl, Nat.le_of_ble_eq_true rfl⟩ ⟨Nat.le_of_ble_eq_true rfl, Nat.le_of_ble_eq_true rfl⟩ 1 rfl rfl (st_s1 z a σ) rfl rfl (Nat.le_of_ble_eq_true rfl) dX4_removeRow_18 (st' := [.int r4]) rfl rfl ?_
      refine lm_istore C (lv' := [(0, .ref (a 0)), (1, .int x1), (2, .int x2), (3, .ref (a 1)), (4, .int r4)]) dX4_removeRow_21 (by decide) rfl [1, 2, 3, 4, 0] rfl rfl ?_
      refine lm_aload_n C dX4_removeRow_23 rfl 3 rfl rfl ?_
      refine lm_iload_n C dX4_removeRow_24 rfl 2 rfl rfl ?_
      obtain ⟨τ5, qτ5, hF⟩ := lm_bde hF
      obtain ⟨σ6, eσ6, hF⟩ := lm_lte hF
      refine lm_callV C (n := 1) (ci := 5) (w' := (stW z a σ6)) hA (m_X5_takeOut D z zo l (lm_sh 1 a) (lm_sh 1 σ) x2 τ5 qτ5) gX4_removeRow_X5_takeOut rfl (by decide +kernel) ⟨Nat.le_of_ble_eq_true rfl, Nat.le_of_ble_eq_true rfl⟩ ⟨Nat.le_of_ble_eq_true rfl, Nat.le_of_ble_eq_true rfl⟩ 1 rfl rfl (st_g1 z a σ) (by rw [← eσ6]; exact st_p1 z a σ τ5) rfl rfl (Nat.le_of_ble_eq_true rfl) dX4_removeRow_25 (st' := []) rfl rfl ?_
      refine lm_iload_n C dX4_removeRow_28 rfl 1 rfl rfl ?_
      refine lm_if_eq C (tgt := 43) dX4_removeRow_29 (by decide) rfl (fun c7 => ?_) (fun c7 => ?_)
      · refine lm_aload_n C dX4_removeRow_43 rfl 0 rfl rfl ?_
        refine lm_iload_n C dX4_removeRow_44 rfl 2 rfl rfl ?_
        obtain ⟨r8, qr8, hF⟩ := lm_bde hF
        refine lm_callVR C (n := 1) (ci := 4) (m_X4_isDone D z zo l a σ6 x2 r8 qr8) gX4_removeRow_X4_isDone rfl (by decide +kernel) ⟨Nat.le_of_ble_eq_true rfl, Nat.le_of_ble_eq_true rfl⟩ ⟨Nat.le_of_ble_eq_true rfl, Nat.le_of_ble_eq_true rfl⟩ 0 rfl rfl (fun _ h => h) rfl rfl (Nat.le_of_ble_eq_true rfl) dX4_removeRow_45 (st' := [.int r8]) rfl rfl ?_
        refine lm_if_eq C (tgt := 61) dX4_removeRow_48 (by decide) rfl (fun c9 => ?_) (fun c9 => ?_)
        · have hF := lm_brt hF c9
          refine lm_aload_n C dX4_removeRow_61 rfl 3 rfl rfl ?_
          obtain ⟨r10, qr10, hF⟩ := lm_bde hF
          refine lm_callVR C (n := 0) (ci := 5) (m_X5_size D z zo l (lm_sh 1 a) (lm_sh 1 σ6)  r10 qr10) gX4_removeRow_X5_size rfl (by decide +kernel) ⟨Nat.le_of_ble_eq_true rfl, Nat.le_of_ble_eq_true rfl⟩ ⟨Nat.le_of_ble_eq_true rfl, Nat.le_of_ble_eq_true rfl⟩ 1 rfl rfl (st_s1 z a σ6) rfl rfl (Nat.le_of_ble_eq_true rfl) dX4_removeRow_62 (st' := [.int r10]) rfl rfl ?_
          cases hF
          exact lm_iret C hr hk rfl rfl dX4_removeRow_65
        · have hF := lm_brf hF c9
          refine lm_aload_n C dX4_removeRow_51 rfl 0 rfl rfl ?_
          refine lm_dup C dX4_removeRow_52 rfl rfl ?_
          refine lm_getf C (T := TX4) (N := 8) (v := .int (σ6 0 6)) in4_X4_removeRow 0 rfl rfl 6 (by decide) fl64_X4_removeRow rfl rfl dX4_removeRow_53 rfl ?_
          refine lm_iconst C (v := (1 : Int32)) dX4_removeRow_56 (by decide) rfl ?_
          refine lm_isub C dX4_removeRow_57 rfl rfl ?_
          obtain ⟨σ11, eσ11, hF⟩ := lm_lte hF
          refine lm_putf C (T := TX4) (N := 8) (ty := .int) (v := .int ((σ6 0 6) - (1 : Int32))) (w' := (stW z a σ11)) in4_X4_removeRow tyX4 tyX4_ok nmX4 0 rfl rfl 6 (by decide) fl64_X4_removeRow rfl rfl rfl rfl rfl (Nat.le_of_ble_eq_true rfl) dX4_removeRow_58 (by rw [← eσ11]; rfl) rfl ?_
          refine lm_aload_n C dX4_removeRow_61 rfl 3 rfl rfl ?_
          obtain ⟨r12, qr12, hF⟩ := lm_bde hF
          refine lm_callVR C (n := 0) (ci := 5) (m_X5_size D z zo l (lm_sh 1 a) (lm_sh 1 σ11)  r12 qr12) gX4_removeRow_X5_size rfl (by decide +kernel) ⟨Nat.le_of_ble_eq_true rfl, Nat.le_of_ble_eq_true rfl⟩ ⟨Nat.le_of_ble_eq_true rfl, Nat.le_of_ble_eq_true rfl⟩ 1 rfl rfl (st_s1 z a σ11) rfl rfl (Nat.le_of_ble_eq_true rfl) dX4_removeRow_62 (st' := [.int r12]) rfl rfl ?_
          cases hF
          exact lm_iret C hr hk rfl rfl dX4_removeRow_65
      · exact (by simp_all : False).elim
    · have hF := lm_brf hF c3
      refine lm_iconst C (v := (-1 : Int32)) dX4_removeRow_14 (by decide) rfl ?_
      cases hF
      exact lm_iret C hr hk rfl rfl dX4_removeRow_15
  · have hF := lm_brf hF c1
    refine lm_callVR C (n := 1) (ci := 4) (m_X4_table_2 D z zo l a σ x1 c1) gX4_removeRow_X4_table rfl (by decide +kernel) ⟨Nat.le_of_ble_eq_true rfl, Nat.le_of_ble_eq_true rfl⟩ ⟨Nat.le_of_ble_eq_true rfl, Nat.le_of_ble_eq_true rfl⟩ 0 rfl rfl (fun _ h => h) rfl rfl (Nat.le_of_ble_eq_true rfl) dX4_removeRow_2 (st' := [.ref (a 4)]) rfl rfl ?_
    refine lm_astore_n C (lv' := [(0, .ref (a 0)), (1, .int x1), (2, .int x2), (3, .ref (a 4))]) dX4_removeRow_5 rfl (by decide) rfl [1, 2, 3, 0] rfl rfl ?_
    refine lm_aload_n C dX4_removeRow_6 rfl 3 rfl rfl ?_
    refine lm_iload_n C dX4_removeRow_7 rfl 2 rfl rfl ?_
    obtain ⟨r13, qr13, hF⟩ := lm_bde hF
    refine lm_callVR C (n := 1) (ci := 5) (m_X5_has D z zo l (lm_sh 4 a) (lm_sh 4 σ) x2 r13 qr13) gX4_removeRow_X5_has rfl (by decide +kernel) ⟨Nat.le_of_ble_eq_true rfl, Nat.le_of_ble_eq_true rfl⟩ ⟨Nat.le_of_ble_eq_true rfl, Nat.le_of_ble_eq_true rfl⟩ 4 rfl rfl (st_s4 z a σ) rfl rfl (Nat.le_of_ble_eq_true rfl) dX4_removeRow_8 (st' := [.int r13]) rfl rfl ?_
    refine lm_if_ne C (tgt := 16) dX4_removeRow_11 (by decide) rfl (fun c14 => ?_) (fun c14 => ?_)
    · have hF := lm_brt hF c14
      refine lm_aload_n C dX4_removeRow_16 rfl 3 rfl rfl ?_
      refine lm_iload_n C dX4_removeRow_17 rfl 2 rfl rfl ?_
      obtain ⟨r15, qr15, hF⟩ := lm_bde hF
      refine lm_callVR C (n := 1) (ci := 5) (m_X5_key D z zo l (lm_sh 4 a) (lm_sh 4 σ) x2 r15 qr15) gX4_removeRow_X5_key rfl (by decide +kernel) ⟨Nat.le_of_ble_eq_true rfl, Nat.le_of_ble_eq_true rfl⟩ ⟨Nat.le_of_ble_eq_true rfl, Nat.le_of_ble_eq_true rfl⟩ 4 rfl rfl (st_s4 z a σ) rfl rfl (Nat.le_of_ble_eq_true rfl) dX4_removeRow_18 (st' := [.int r15]) rfl rfl ?_
      refine lm_istore C (lv' := [(0, .ref (a 0)), (1, .int x1), (2, .int x2), (3, .ref (a 4)), (4, .int r15)]) dX4_removeRow_21 (by decide) rfl [1, 2, 3, 4, 0] rfl rfl ?_
      refine lm_aload_n C dX4_removeRow_23 rfl 3 rfl rfl ?_
      refine lm_iload_n C dX4_removeRow_24 rfl 2 rfl rfl ?_
      obtain ⟨τ16, qτ16, hF⟩ := lm_bde hF
      obtain ⟨σ17, eσ17, hF⟩ := lm_lte hF
      refine lm_callV C (n := 1) (ci := 5) (w' := (stW z a σ17)) hA (m_X5_takeOut D z zo l (lm_sh 4 a) (lm_sh 4 σ) x2 τ16 qτ16) gX4_removeRow_X5_takeOut rfl (by decide +kernel) ⟨Nat.le_of_ble_eq_true rfl, Nat.le_of_ble_eq_true rfl⟩ ⟨Nat.le_of_ble_eq_true rfl, Nat.le_of_ble_eq_true rfl⟩ 4 rfl rfl (st_g4 z a σ) (by rw [← eσ17]; exact st_p4 z a σ τ16) rfl rfl (Nat.le_of_ble_eq_true rfl) dX4_removeRow_25 (st' := []) rfl rfl ?_
      refine lm_iload_n C dX4_removeRow_28 rfl 1 rfl rfl ?_
      refine lm_if_eq C (tgt := 43) dX4_removeRow_29 (by decide) rfl (fun c18 => ?_) (fun c18 => ?_)
      · exact (by simp_all : False).elim
      · refine lm_aload_n C dX4_removeRow_32 rfl 0 rfl rfl ?_
        refine lm_iload C dX4_removeRow_33 4 rfl rfl ?_
        refine lm_iload C dX4_removeRow_35 4 rfl rfl ?_
        obtain ⟨σ19, qσ19, hF⟩ := lm_bde hF
        refine lm_callV C (n := 2) (ci := 4) (w' := (stW z a σ19)) hA (m_X4_keepTrue D z zo l a σ17 r15 r15 σ19 qσ19) gX4_removeRow_X4_keepTrue rfl (by decide +kernel) ⟨Nat.le_of_ble_eq_true rfl, Nat.le_of_ble_eq_true rfl⟩ ⟨Nat.le_of_ble_eq_true rfl, Nat.le_of_ble_eq_true rfl⟩ 0 rfl rfl lm_pr lm_pr' rfl rfl (Nat.le_of_ble_eq_true rfl) dX4_removeRow_37 (st' := []) rfl rfl ?_
        refine lm_goto C (tgt := 61) dX4_removeRow_40 (by decide) ?_
        refine lm_aload_n C dX4_removeRow_61 rfl 3 rfl rfl ?_
        obtain ⟨r20, qr20, hF⟩ := lm_bde hF
        refine lm_callVR C (n := 0) (ci := 5) (m_X5_size D z zo l (lm_sh 4 a) (lm_sh 4 σ19)  r20 qr20) gX4_removeRow_X5_size rfl (by decide +kernel) ⟨Nat.le_of_ble_eq_true rfl, Nat.le_of_ble_eq_true rfl⟩ ⟨Nat.le_of_ble_eq_true rfl, Nat.le_of_ble_eq_true rfl⟩ 4 rfl rfl (st_s4 z a σ19) rfl rfl (Nat.le_of_ble_eq_true rfl) dX4_removeRow_62 (st' := [.int r20]) rfl rfl ?_
        cases hF
        exact lm_iret C hr hk rfl rfl dX4_removeRow_65
    · have hF := lm_brf hF c14
      refine lm_iconst C (v := (-1 : Int32)) dX4_removeRow_14 (by decide) rfl ?_
      cases hF
      exact lm_iret C hr hk rfl rfl dX4_removeRow_15
def F_X4_rewriteRow (σ : Hp) (x1 x2 x3 : Int32) : Option (Int32 × (Hp)) :=
  lm_bd (F_X5_has (lm_sh 4 σ) x1) fun r1 =>
  lm_br (r1 = 0)
   (some ((-1 : Int32), σ))
   (lm_bd (F_X6_isRow x2 x3) fun r3 =>
   lm_br (¬ r3 = 0)
    (lm_bd (F_X5_key (lm_sh 4 σ) x1) fun r5 =>
    lm_bd (F_X5_put (lm_sh 4 σ) x1 x2 x3) fun τ6 =>
    lm_lt (lm_sb σ 4 3 τ6) fun σ7 =>
    lm_bd (F_X4_keepTrue σ7 r5 x2) fun σ8 =>
    lm_bd (F_X2_size (lm_sh 11 σ8)) fun r9 =>
    some (r9, σ8))
    (some ((-1 : Int32), σ)))
theorem in4_X4_rewriteRow : ∀ w ∈ u_ws RX4 TX4 8, w ∈ wsX4_rewriteRow := by decide +kernel
theorem fl18_X4_rewriteRow : Cond.fieldLink RX4 18 "LoopMemo$State" "inner" "LLoopMemo$Table;" ∈ wsX4_rewriteRow := by decide +kernel
theorem fl31_X4_rewriteRow : Cond.fieldLink RX4 31 "LoopMemo$State" "memo" "LLoopMemo$Memo;" ∈ wsX4_rewriteRow := by decide +kernel
theorem ini_X6_isRow_X4_rewriteRow : Cond.initialized yX6_isRow.cls ∈ wsX4_rewriteRow := by decide +kernel
theorem sta_X6_isRow_X4_rewriteRow : Cond.static yX6_isRow ∈ wsX4_rewriteRow := by decide +kernel
set_option maxRecDepth 100000 in
set_option maxHeartbeats 4000000 in
theorem m_X4_rewriteRow (D : va_G) (z zo : ClassId) (l : Launch) (a : Nat → Nat) (σ : Hp) (x1 x2 x3 : Int32) (r : Int32) (σ' : Hp) (hF : F_X4_rewriteRow σ x1 x2 x3 = some (r, σ')) : lm_C D z zo l yX4_rewriteRow wsX4_rewriteRow 4 89 [.ref (a 0), .int x1, .int x2, .int x3] (stW z a σ) (some (.int r)) (stW z a σ') := by
  refine lm_C.of (by decide) rfl (Nat.le_of_ble_eq_true rfl) (own := RX4) rfl ?_
  intro p e s m_ args below meth c C hr hk hA
  show lm_St p l e ({ frames := 4, cells := 0, slots := 0, locals := 89 }) s m_ args below meth c D (va_A (stW z a σ) s.heap.size) 5 0 0 (lm_End below D (some (.int r)) (stW z a σ) (stW z a σ') args s) false (stW z a σ) 0 [(0, .ref (a 0)), (1, .int x1), (2, .int x2), (3, .int x3)] []
  rw [F_X4_rewriteRow] at hF
  refine lm_aload_n C dX4_rewriteRow_0 rfl 0 rfl rfl ?_
  refine lm_getf C (T := TX4) (N := 8) (v := .ref (a 4)) in4_X4_rewriteRow 0 rfl rfl 1 (by decide) fl18_X4_rewriteRow rfl rfl dX4_rewriteRow_1 rfl ?_
  refine lm_iload_n C dX4_rewriteRow_4 rfl 1 rfl rfl ?_
  obtain ⟨r1, qr1, hF⟩ := lm_bde hF
  refine lm_callVR C (n := 1) (ci := 5) (m_X5_has D z zo l (lm_sh 4 a) (lm_sh 4 σ) x1 r1 qr1) gX4_rewriteRow_X5_has rfl (by decide +kernel) ⟨Nat.le_of_ble_eq_true rfl, Nat.le_of_ble_eq_true rfl⟩ ⟨Nat.le_of_ble_eq_true rfl, Nat.le_of_ble_eq_true rfl⟩ 4 rfl rfl (st_s4 z a σ) rfl rfl (Nat.le_of_ble_eq_true rfl) dX4_rewriteRow_5 (st' := [.int r1]) rfl rfl ?_
  refine lm_if_eq C (tgt := 19) dX4_rewriteRow_8 (by decide) rfl (fun c2 => ?_) (fun c2 => ?_)
  · have hF := lm_brt hF c2
    refine lm_iconst C (v := (-1 : Int32)) dX4_rewriteRow_19 (by decide) rfl ?_
    cases hF
    exact lm_iret C hr hk rfl rfl dX4_rewriteRow_20
  · have hF := lm_brf hF c2
    refine lm_iload_n C dX4_rewriteRow_11 rfl 2 rfl rfl ?_
    refine lm_iload_n C dX4_rewriteRow_12 rfl 3 rfl rfl ?_
    obtain ⟨r3, qr3, hF⟩ := lm_bde hF
    refine lm_callSNR C (n := 2) (m_X6_isRow D z zo l   x2 x3 r3 qr3) gX4_rewriteRow_X6_isRow_n85 rfl ini_X6_isRow_X4_rewriteRow sta_X6_isRow_X4_rewriteRow (by decide +kernel) ⟨Nat.le_of_ble_eq_true rfl, Nat.le_of_ble_eq_true rfl⟩ ⟨Nat.le_of_ble_eq_true rfl, Nat.le_of_ble_eq_true rfl⟩ (by decide +kernel) (fun _ h => absurd h List.not_mem_nil) rfl rfl (Nat.le_of_ble_eq_true rfl) dX4_rewriteRow_13 (st' := [.int r3]) rfl rfl ?_
    refine lm_if_ne C (tgt := 21) dX4_rewriteRow_16 (by decide) rfl (fun c4 => ?_) (fun c4 => ?_)
    · have hF := lm_brt hF c4
      refine lm_aload_n C dX4_rewriteRow_21 rfl 0 rfl rfl ?_
      refine lm_getf C (T := TX4) (N := 8) (v := .ref (a 4)) in4_X4_rewriteRow 0 rfl rfl 1 (by decide) fl18_X4_rewriteRow rfl rfl dX4_rewriteRow_22 rfl ?_
      refine lm_iload_n C dX4_rewriteRow_25 rfl 1 rfl rfl ?_
      obtain ⟨r5, qr5, hF⟩ := lm_bde hF
      refine lm_callVR C (n := 1) (ci := 5) (m_X5_key D z zo l (lm_sh 4 a) (lm_sh 4 σ) x1 r5 qr5) gX4_rewriteRow_X5_key rfl (by decide +kernel) ⟨Nat.le_of_ble_eq_true rfl, Nat.le_of_ble_eq_true rfl⟩ ⟨Nat.le_of_ble_eq_true rfl, Nat.le_of_ble_eq_true rfl⟩ 4 rfl rfl (st_s4 z a σ) rfl rfl (Nat.le_of_ble_eq_true rfl) dX4_rewriteRow_26 (st' := [.int r5]) rfl rfl ?_
      refine lm_istore C (lv' := [(0, .ref (a 0)), (1, .int x1), (2, .int x2), (3, .int x3), (4, .int r5)]) dX4_rewriteRow_29 (by decide) rfl [1, 2, 3, 4, 0] rfl rfl ?_
      refine lm_aload_n C dX4_rewriteRow_31 rfl 0 rfl rfl ?_
      refine lm_getf C (T := TX4) (N := 8) (v := .ref (a 4)) in4_X4_rewriteRow 0 rfl rfl 1 (by decide) fl18_X4_rewriteRow rfl rfl dX4_rewriteRow_32 rfl ?_
      refine lm_iload_n C dX4_rewriteRow_35 rfl 1 rfl rfl ?_
      refine lm_iload_n C dX4_rewriteRow_36 rfl 2 rfl rfl ?_
      refine lm_iload_n C dX4_rewriteRow_37 rfl 3 rfl rfl ?_
      obtain ⟨τ6, qτ6, hF⟩ := lm_bde hF
      obtain ⟨σ7, eσ7, hF⟩ := lm_lte hF
      refine lm_callV C (n := 3) (ci := 5) (w' := (stW z a σ7)) hA (m_X5_put D z zo l (lm_sh 4 a) (lm_sh 4 σ) x1 x2 x3 τ6 qτ6) gX4_rewriteRow_X5_put rfl (by decide +kernel) ⟨Nat.le_of_ble_eq_true rfl, Nat.le_of_ble_eq_true rfl⟩ ⟨Nat.le_of_ble_eq_true rfl, Nat.le_of_ble_eq_true rfl⟩ 4 rfl rfl (st_g4 z a σ) (by rw [← eσ7]; exact st_p4 z a σ τ6) rfl rfl (Nat.le_of_ble_eq_true rfl) dX4_rewriteRow_38 (st' := []) rfl rfl ?_
      refine lm_aload_n C dX4_rewriteRow_41 rfl 0 rfl rfl ?_
      refine lm_iload C dX4_rewriteRow_42 4 rfl rfl ?_
      refine lm_iload_n C dX4_rewriteRow_44 rfl 2 rfl rfl ?_
      obtain ⟨σ8, qσ8, hF⟩ := lm_bde hF
      refine lm_callV C (n := 2) (ci := 4) (w' := (stW z a σ8)) hA (m_X4_keepTrue D z zo l a σ7 r5 x2 σ8 qσ8) gX4_rewriteRow_X4_keepTrue rfl (by decide +kernel) ⟨Nat.le_of_ble_eq_true rfl, Nat.le_of_ble_eq_true rfl⟩ ⟨Nat.le_of_ble_eq_true rfl, Nat.le_of_ble_eq_true rfl⟩ 0 rfl rfl lm_pr lm_pr' rfl rfl (Nat.le_of_ble_eq_true rfl) dX4_rewriteRow_45 (st' := []) rfl rfl ?_
      refine lm_aload_n C dX4_rewriteRow_48 rfl 0 rfl rfl ?_
      refine lm_getf C (T := TX4) (N := 8) (v := .ref (a 11)) in4_X4_rewriteRow 0 rfl rfl 3 (by decide) fl31_X4_rewriteRow rfl rfl dX4_rewriteRow_49 rfl ?_
      obtain ⟨r9, qr9, hF⟩ := lm_bde hF
      refine lm_callVR C (n := 0) (ci := 2) (m_X2_size D z zo l (lm_sh 11 a) (lm_sh 11 σ8)  r9 qr9) gX4_rewriteRow_X2_size rfl (by decide +kernel) ⟨Nat.le_of_ble_eq_true rfl, Nat.le_of_ble_eq_true rfl⟩ ⟨Nat.le_of_ble_eq_true rfl, Nat.le_of_ble_eq_true rfl⟩ 11 rfl rfl (st_s11 z a σ8) rfl rfl (Nat.le_of_ble_eq_true rfl) dX4_rewriteRow_52 (st' := [.int r9]) rfl rfl ?_
      cases hF
      exact lm_iret C hr hk rfl rfl dX4_rewriteRow_55
    · have hF := lm_brf hF c4
      refine lm_iconst C (v := (-1 : Int32)) dX4_rewriteRow_19 (by decide) rfl ?_
      cases hF
      exact lm_iret C hr hk rfl rfl dX4_rewriteRow_20
def F_X4_weightTogether_L4 : Nat → Hp → Int32 → Int32 → Option Int32
  | 0, _, _, _ => none
  | n + 1, σx, x1, x2 =>
    lm_br ((10 : Int32) ≤ x2)
     (some x1)
     (lm_bd (F_X2_holds (lm_sh 11 σx) x2) fun r2 =>
     lm_br (r2 = 0)
      (F_X4_weightTogether_L4 n σx x1 (x2 + (1 : Int32)))
      (lm_bd (F_X0_weight (lm_sh 7 σx) x2) fun r4 =>
      F_X4_weightTogether_L4 n σx (x1 + r4) (x2 + (1 : Int32))))
def F_X4_weightTogether (σ : Hp)  : Option Int32 :=
  F_X4_weightTogether_L4 1000 σ (0 : Int32) (0 : Int32)
theorem in4_X4_weightTogether : ∀ w ∈ u_ws RX4 TX4 8, w ∈ wsX4_weightTogether := by decide +kernel
theorem fl31_X4_weightTogether : Cond.fieldLink RX4 31 "LoopMemo$State" "memo" "LLoopMemo$Memo;" ∈ wsX4_weightTogether := by decide +kernel
theorem fl24_X4_weightTogether : Cond.fieldLink RX4 24 "LoopMemo$State" "answers" "LLoopMemo$Answers;" ∈ wsX4_weightTogether := by decide +kernel
set_option maxRecDepth 100000 in
set_option maxHeartbeats 4000000 in
theorem m_X4_weightTogether (D : va_G) (z zo : ClassId) (l : Launch) (a : Nat → Nat) (σ : Hp)  (r : Int32)  (hF : F_X4_weightTogether σ  = some r) : lm_CR D z zo l yX4_weightTogether wsX4_weightTogether 1 21 [.ref (a 0)] (stW z a σ) (some (.int r)) := by
  refine lm_CR.of (by decide) rfl (Nat.le_of_ble_eq_true rfl) (own := RX4) rfl ?_
  intro p e s m_ args below meth c C hr hk
  have loop_4 : ∀ (n : Nat) (σx : Hp) (x1 : Int32) (x2 : Int32), F_X4_weightTogether_L4 n σx x1 x2 = some r → lm_St p l e ({ frames := 1, cells := 0, slots := 0, locals := 21 }) s m_ args below meth c D (fun _ => False) 3 0 0 (lm_EndR below (some (.int r)) args s) true (stW z a σx) 4 [(0, .ref (a 0)), (1, .int x1), (2, .int x2)] [] := by
    intro n
    induction n with
    | zero => intro σx x1 x2 hF; cases (show (none : Option _) = some _ from hF)
    | succ n ih =>
      intro σx x1 x2 hF
      rw [F_X4_weightTogether_L4] at hF
      refine lm_iload_n C dX4_weightTogether_4 rfl 2 rfl rfl ?_
      refine lm_bipush C (v := (10 : Int32)) dX4_weightTogether_5 (by decide) rfl ?_
      refine lm_icmp_ge C (tgt := 38) dX4_weightTogether_7 (by decide) rfl (fun c1 => ?_) (fun c1 => ?_)
      · have hF := lm_brt hF c1
        refine lm_iload_n C dX4_weightTogether_38 rfl 1 rfl rfl ?_
        cases hF
        exact lm_iretR C hr hk rfl dX4_weightTogether_39
      · have hF := lm_brf hF c1
        refine lm_aload_n C dX4_weightTogether_10 rfl 0 rfl rfl ?_
        refine lm_getf C (T := TX4) (N := 8) (v := .ref (a 11)) in4_X4_weightTogether 0 rfl rfl 3 (by decide) fl31_X4_weightTogether rfl rfl dX4_weightTogether_11 rfl ?_
        refine lm_iload_n C dX4_weightTogether_14 rfl 2 rfl rfl ?_
        obtain ⟨r2, qr2, hF⟩ := lm_bde hF
        refine lm_callVR C (n := 1) (ci := 2) (m_X2_holds D z zo l (lm_sh 11 a) (lm_sh 11 σx) x2 r2 qr2) gX4_weightTogether_X2_holds rfl (by decide +kernel) ⟨Nat.le_of_ble_eq_true rfl, Nat.le_of_ble_eq_true rfl⟩ ⟨Nat.le_of_ble_eq_true rfl, Nat.le_of_ble_eq_true rfl⟩ 11 rfl rfl (st_s11 z a σx) rfl rfl (Nat.le_of_ble_eq_true rfl) dX4_weightTogether_15 (st' := [.int r2]) rfl rfl ?_
        refine lm_if_eq C (tgt := 32) dX4_weightTogether_18 (by decide) rfl (fun c3 => ?_) (fun c3 => ?_)
        · have hF := lm_brt hF c3
          refine lm_iinc C (lv' := [(0, .ref (a 0)), (1, .int x1), (2, .int (x2 + (1 : Int32)))]) (x2 + (1 : Int32)) dX4_weightTogether_32 2 rfl rfl (by decide) rfl [1, 2, 0] rfl rfl ?_
          refine lm_goto C (tgt := 4) dX4_weightTogether_35 (by decide) ?_
          exact ih σx x1 (x2 + (1 : Int32)) hF
        · have hF := lm_brf hF c3
          refine lm_iload_n C dX4_weightTogether_21 rfl 1 rfl rfl ?_
          refine lm_aload_n C dX4_weightTogether_22 rfl 0 rfl rfl ?_
          refine lm_getf C (T := TX4) (N := 8) (v := .ref (a 7)) in4_X4_weightTogether 0 rfl rfl 2 (by decide) fl24_X4_weightTogether rfl rfl dX4_weightTogether_23 rfl ?_
          refine lm_iload_n C dX4_weightTogether_26 rfl 2 rfl rfl ?_
          obtain ⟨r4, qr4, hF⟩ := lm_bde hF
          refine lm_callVR C (n := 1) (ci := 0) (m_X0_weight D z zo l (lm_sh 7 a) (lm_sh 7 σx) x2 r4 qr4) gX4_weightTogether_X0_weight rfl (by decide +kernel) ⟨Nat.le_of_ble_eq_true rfl, Nat.le_of_ble_eq_true rfl⟩ ⟨Nat.le_of_ble_eq_true rfl, Nat.le_of_ble_eq_true rfl⟩ 7 rfl rfl (st_s7 z a σx) rfl rfl (Nat.le_of_ble_eq_true rfl) dX4_weightTogether_27 (st' := [.int r4, .int x1]) rfl rfl ?_
          refine lm_iadd C dX4_weightTogether_30 rfl rfl ?_
          refine lm_istore_n C (lv' := [(0, .ref (a 0)), (1, .int (x1 + r4)), (2, .int x2)]) dX4_weightTogether_31 rfl (by decide) rfl [1, 0, 2] rfl rfl ?_
          refine lm_iinc C (lv' := [(0, .ref (a 0)), (1, .int (x1 + r4)), (2, .int (x2 + (1 : Int32)))]) (x2 + (1 : Int32)) dX4_weightTogether_32 2 rfl rfl (by decide) rfl [1, 2, 0] rfl rfl ?_
          refine lm_goto C (tgt := 4) dX4_weightTogether_35 (by decide) ?_
          exact ih σx (x1 + r4) (x2 + (1 : Int32)) hF
  show lm_St p l e ({ frames := 1, cells := 0, slots := 0, locals := 21 }) s m_ args below meth c D (fun _ => False) 3 0 0 (lm_EndR below (some (.int r)) args s) true (stW z a σ) 0 [(0, .ref (a 0))] []
  rw [F_X4_weightTogether] at hF
  refine lm_iconst C (v := (0 : Int32)) dX4_weightTogether_0 (by decide) rfl ?_
  refine lm_istore_n C (lv' := [(0, .ref (a 0)), (1, .int (0 : Int32))]) dX4_weightTogether_1 rfl (by decide) rfl [1, 0] rfl rfl ?_
  refine lm_iconst C (v := (0 : Int32)) dX4_weightTogether_2 (by decide) rfl ?_
  refine lm_istore_n C (lv' := [(0, .ref (a 0)), (1, .int (0 : Int32)), (2, .int (0 : Int32))]) dX4_weightTogether_3 rfl (by decide) rfl [1, 2, 0] rfl rfl ?_
  exact loop_4 1000 σ (0 : Int32) (0 : Int32) hF
def F_X4_makeRoom_L7 : Nat → Hp → Int32 → Int32 → Int32 → Option (Int32 × (Hp))
  | 0, _, _, _, _ => none
  | n + 1, σx, x1, x2, x3 =>
    lm_br ((10 : Int32) ≤ x2)
     (lm_lt (lm_u σx 16 3 ((σx 16 3) + x2)) fun σ3 =>
     some (x2, σ3))
     (lm_br (x3 ≤ (σx 15 0))
      (lm_lt (lm_u σx 16 3 ((σx 16 3) + x2)) fun σ5 =>
      some (x2, σ5))
      (lm_bd (F_X2_firstOut (lm_sh 11 σx) (σx 15 1) x1) fun r6 =>
      lm_bd (F_X0_weight (lm_sh 7 σx) r6) fun r7 =>
      lm_bd (F_X2_lose (lm_sh 11 σx) r6) fun τ8 =>
      lm_lt (lm_sb σx 11 4 τ8) fun σ9 =>
      F_X4_makeRoom_L7 n σ9 x1 (x2 + (1 : Int32)) (x3 - r7)))
def F_X4_makeRoom (σ : Hp) (x1 : Int32) : Option (Int32 × (Hp)) :=
  lm_bd (F_X4_weightTogether σ) fun r1 =>
  F_X4_makeRoom_L7 1000 σ x1 (0 : Int32) r1
theorem in4_X4_makeRoom : ∀ w ∈ u_ws RX4 TX4 8, w ∈ wsX4_makeRoom := by decide +kernel
theorem fl47_X4_makeRoom : Cond.fieldLink RX4 47 "LoopMemo$State" "tallies" "[I" ∈ wsX4_makeRoom := by decide +kernel
theorem fl44_X4_makeRoom : Cond.fieldLink RX4 44 "LoopMemo$State" "settings" "[I" ∈ wsX4_makeRoom := by decide +kernel
theorem fl31_X4_makeRoom : Cond.fieldLink RX4 31 "LoopMemo$State" "memo" "LLoopMemo$Memo;" ∈ wsX4_makeRoom := by decide +kernel
theorem fl24_X4_makeRoom : Cond.fieldLink RX4 24 "LoopMemo$State" "answers" "LLoopMemo$Answers;" ∈ wsX4_makeRoom := by decide +kernel
set_option maxRecDepth 100000 in
set_option maxHeartbeats 4000000 in
theorem m_X4_makeRoom (D : va_G) (z zo : ClassId) (l : Launch) (a : Nat → Nat) (σ : Hp) (x1 : Int32) (r : Int32) (σ' : Hp) (hF : F_X4_makeRoom σ x1 = some (r, σ')) : lm_C D z zo l yX4_makeRoom wsX4_makeRoom 2 46 [.ref (a 0), .int x1] (stW z a σ) (some (.int r)) (stW z a σ') := by
  refine lm_C.of (by decide) rfl (Nat.le_of_ble_eq_true rfl) (own := RX4) rfl ?_
  intro p e s m_ args below meth c C hr hk hA
  have loop_7 : ∀ (n : Nat) (σx : Hp) (x1 : Int32) (x2 : Int32) (x3 : Int32), F_X4_makeRoom_L7 n σx x1 x2 x3 = some (r, σ') → lm_St p l e ({ frames := 2, cells := 0, slots := 0, locals := 46 }) s m_ args below meth c D (va_A (stW z a σ) s.heap.size) 5 0 0 (lm_End below D (some (.int r)) (stW z a σ) (stW z a σ') args s) false (stW z a σx) 7 [(0, .ref (a 0)), (1, .int x1), (2, .int x2), (3, .int x3)] [] := by
    intro n
    induction n with
    | zero => intro σx x1 x2 x3 hF; cases (show (none : Option _) = some _ from hF)
    | succ n ih =>
      intro σx x1 x2 x3 hF
      rw [F_X4_makeRoom_L7] at hF
      refine lm_iload_n C dX4_makeRoom_7 rfl 2 rfl rfl ?_
      refine lm_bipush C (v := (10 : Int32)) dX4_makeRoom_8 (by decide) rfl ?_
      refine lm_icmp_ge C (tgt := 66) dX4_makeRoom_10 (by decide) rfl (fun c2 => ?_) (fun c2 => ?_)
      · have hF := lm_brt hF c2
        refine lm_aload_n C dX4_makeRoom_66 rfl 0 rfl rfl ?_
        refine lm_getf C (T := TX4) (N := 8) (v := .ref (a 16)) in4_X4_makeRoom 0 rfl rfl 5 (by decide) fl47_X4_makeRoom rfl rfl dX4_makeRoom_67 rfl ?_
        refine lm_iconst C (v := (3 : Int32)) dX4_makeRoom_70 (by decide) rfl ?_
        refine lm_dup2 C dX4_makeRoom_71 rfl rfl rfl ?_
        refine lm_iald C (v := (σx 16 3)) 16 rfl (by unfold vp_in; decide) rfl dX4_makeRoom_72 rfl ?_
        refine lm_iload_n C dX4_makeRoom_73 rfl 2 rfl rfl ?_
        refine lm_iadd C dX4_makeRoom_74 rfl rfl ?_
        obtain ⟨σ3, eσ3, hF⟩ := lm_lte hF
        refine lm_iast C (w' := (stW z a σ3)) 16 rfl (by unfold vp_in; decide) dX4_makeRoom_75 (by rw [← eσ3]; rfl) rfl ?_
        refine lm_iload_n C dX4_makeRoom_76 rfl 2 rfl rfl ?_
        cases hF
        exact lm_iret C hr hk rfl rfl dX4_makeRoom_77
      · have hF := lm_brf hF c2
        refine lm_iload_n C dX4_makeRoom_13 rfl 3 rfl rfl ?_
        refine lm_aload_n C dX4_makeRoom_14 rfl 0 rfl rfl ?_
        refine lm_getf C (T := TX4) (N := 8) (v := .ref (a 15)) in4_X4_makeRoom 0 rfl rfl 4 (by decide) fl44_X4_makeRoom rfl rfl dX4_makeRoom_15 rfl ?_
        refine lm_iconst C (v := (0 : Int32)) dX4_makeRoom_18 (by decide) rfl ?_
        refine lm_iald C (v := (σx 15 0)) 15 rfl (by unfold vp_in; decide) rfl dX4_makeRoom_19 rfl ?_
        refine lm_icmp_le C (tgt := 66) dX4_makeRoom_20 (by decide) rfl (fun c4 => ?_) (fun c4 => ?_)
        · have hF := lm_brt hF c4
          refine lm_aload_n C dX4_makeRoom_66 rfl 0 rfl rfl ?_
          refine lm_getf C (T := TX4) (N := 8) (v := .ref (a 16)) in4_X4_makeRoom 0 rfl rfl 5 (by decide) fl47_X4_makeRoom rfl rfl dX4_makeRoom_67 rfl ?_
          refine lm_iconst C (v := (3 : Int32)) dX4_makeRoom_70 (by decide) rfl ?_
          refine lm_dup2 C dX4_makeRoom_71 rfl rfl rfl ?_
          refine lm_iald C (v := (σx 16 3)) 16 rfl (by unfold vp_in; decide) rfl dX4_makeRoom_72 rfl ?_
          refine lm_iload_n C dX4_makeRoom_73 rfl 2 rfl rfl ?_
          refine lm_iadd C dX4_makeRoom_74 rfl rfl ?_
          obtain ⟨σ5, eσ5, hF⟩ := lm_lte hF
          refine lm_iast C (w' := (stW z a σ5)) 16 rfl (by unfold vp_in; decide) dX4_makeRoom_75 (by rw [← eσ5]; rfl) rfl ?_
          refine lm_iload_n C dX4_makeRoom_76 rfl 2 rfl rfl ?_
          cases hF
          exact lm_iret C hr hk rfl rfl dX4_makeRoom_77
        · have hF := lm_brf hF c4
          refine lm_aload_n C dX4_makeRoom_23 rfl 0 rfl rfl ?_
          refine lm_getf C (T := TX4) (N := 8) (v := .ref (a 11)) in4_X4_makeRoom 0 rfl rfl 3 (by decide) fl31_X4_makeRoom rfl rfl dX4_makeRoom_24 rfl ?_
          refine lm_aload_n C dX4_makeRoom_27 rfl 0 rfl rfl ?_
          refine lm_getf C (T := TX4) (N := 8) (v := .ref (a 15)) in4_X4_makeRoom 0 rfl rfl 4 (by decide) fl44_X4_makeRoom rfl rfl dX4_makeRoom_28 rfl ?_
          refine lm_iconst C (v := (1 : Int32)) dX4_makeRoom_31 (by decide) rfl ?_
          refine lm_iald C (v := (σx 15 1)) 15 rfl (by unfold vp_in; decide) rfl dX4_makeRoom_32 rfl ?_
          refine lm_iload_n C dX4_makeRoom_33 rfl 1 rfl rfl ?_
          obtain ⟨r6, qr6, hF⟩ := lm_bde hF
          refine lm_callVR C (n := 2) (ci := 2) (m_X2_firstOut D z zo l (lm_sh 11 a) (lm_sh 11 σx) (σx 15 1) x1 r6 qr6) gX4_makeRoom_X2_firstOut rfl (by decide +kernel) ⟨Nat.le_of_ble_eq_true rfl, Nat.le_of_ble_eq_true rfl⟩ ⟨Nat.le_of_ble_eq_true rfl, Nat.le_of_ble_eq_true rfl⟩ 11 rfl rfl (st_s11 z a σx) rfl rfl (Nat.le_of_ble_eq_true rfl) dX4_makeRoom_34 (st' := [.int r6]) rfl rfl ?_
          refine lm_istore C (lv' := [(0, .ref (a 0)), (1, .int x1), (2, .int x2), (3, .int x3), (4, .int r6)]) dX4_makeRoom_37 (by decide) rfl [1, 2, 3, 4, 0] rfl rfl ?_
          refine lm_iload_n C dX4_makeRoom_39 rfl 3 rfl rfl ?_
          refine lm_aload_n C dX4_makeRoom_40 rfl 0 rfl rfl ?_
          refine lm_getf C (T := TX4) (N := 8) (v := .ref (a 7)) in4_X4_makeRoom 0 rfl rfl 2 (by decide) fl24_X4_makeRoom rfl rfl dX4_makeRoom_41 rfl ?_
          refine lm_iload C dX4_makeRoom_44 4 rfl rfl ?_
          obtain ⟨r7, qr7, hF⟩ := lm_bde hF
          refine lm_callVR C (n := 1) (ci := 0) (m_X0_weight D z zo l (lm_sh 7 a) (lm_sh 7 σx) r6 r7 qr7) gX4_makeRoom_X0_weight rfl (by decide +kernel) ⟨Nat.le_of_ble_eq_true rfl, Nat.le_of_ble_eq_true rfl⟩ ⟨Nat.le_of_ble_eq_true rfl, Nat.le_of_ble_eq_true rfl⟩ 7 rfl rfl (st_s7 z a σx) rfl rfl (Nat.le_of_ble_eq_true rfl) dX4_makeRoom_46 (st' := [.int r7, .int x3]) rfl rfl ?_
          refine lm_isub C dX4_makeRoom_49 rfl rfl ?_
          refine lm_istore_n C (lv' := [(0, .ref (a 0)), (1, .int x1), (2, .int x2), (3, .int (x3 - r7)), (4, .int r6)]) dX4_makeRoom_50 rfl (by decide) rfl [1, 2, 3, 0, 4] rfl rfl ?_
          refine lm_aload_n C dX4_makeRoom_51 rfl 0 rfl rfl ?_
          refine lm_getf C (T := TX4) (N := 8) (v := .ref (a 11)) in4_X4_makeRoom 0 rfl rfl 3 (by decide) fl31_X4_makeRoom rfl rfl dX4_makeRoom_52 rfl ?_
          refine lm_iload C dX4_makeRoom_55 4 rfl rfl ?_
          obtain ⟨τ8, qτ8, hF⟩ := lm_bde hF
          obtain ⟨σ9, eσ9, hF⟩ := lm_lte hF
          refine lm_callV C (n := 1) (ci := 2) (w' := (stW z a σ9)) hA (m_X2_lose D z zo l (lm_sh 11 a) (lm_sh 11 σx) r6 τ8 qτ8) gX4_makeRoom_X2_lose rfl (by decide +kernel) ⟨Nat.le_of_ble_eq_true rfl, Nat.le_of_ble_eq_true rfl⟩ ⟨Nat.le_of_ble_eq_true rfl, Nat.le_of_ble_eq_true rfl⟩ 11 rfl rfl (st_g11 z a σx) (by rw [← eσ9]; exact st_p11 z a σx τ8) rfl rfl (Nat.le_of_ble_eq_true rfl) dX4_makeRoom_57 (st' := []) rfl rfl ?_
          refine lm_iinc C (lv' := [(0, .ref (a 0)), (1, .int x1), (2, .int (x2 + (1 : Int32))), (3, .int (x3 - r7)), (4, .int r6)]) (x2 + (1 : Int32)) dX4_makeRoom_60 2 rfl rfl (by decide) rfl [1, 2, 0, 3, 4] rfl rfl ?_
          refine lm_goto C (tgt := 7) dX4_makeRoom_63 (by decide) ?_
          refine lm_lvsub (lv' := [(0, .ref (a 0)), (1, .int x1), (2, .int (x2 + (1 : Int32))), (3, .int (x3 - r7))]) [0, 1, 2, 3] rfl ?_
          exact ih σ9 x1 (x2 + (1 : Int32)) (x3 - r7) hF
  show lm_St p l e ({ frames := 2, cells := 0, slots := 0, locals := 46 }) s m_ args below meth c D (va_A (stW z a σ) s.heap.size) 5 0 0 (lm_End below D (some (.int r)) (stW z a σ) (stW z a σ') args s) false (stW z a σ) 0 [(0, .ref (a 0)), (1, .int x1)] []
  rw [F_X4_makeRoom] at hF
  refine lm_iconst C (v := (0 : Int32)) dX4_makeRoom_0 (by decide) rfl ?_
  refine lm_istore_n C (lv' := [(0, .ref (a 0)), (1, .int x1), (2, .int (0 : Int32))]) dX4_makeRoom_1 rfl (by decide) rfl [1, 2, 0] rfl rfl ?_
  refine lm_aload_n C dX4_makeRoom_2 rfl 0 rfl rfl ?_
  obtain ⟨r1, qr1, hF⟩ := lm_bde hF
  refine lm_callVR C (n := 0) (ci := 4) (m_X4_weightTogether D z zo l a σ  r1 qr1) gX4_makeRoom_X4_weightTogether rfl (by decide +kernel) ⟨Nat.le_of_ble_eq_true rfl, Nat.le_of_ble_eq_true rfl⟩ ⟨Nat.le_of_ble_eq_true rfl, Nat.le_of_ble_eq_true rfl⟩ 0 rfl rfl (fun _ h => h) rfl rfl (Nat.le_of_ble_eq_true rfl) dX4_makeRoom_3 (st' := [.int r1]) rfl rfl ?_
  refine lm_istore_n C (lv' := [(0, .ref (a 0)), (1, .int x1), (2, .int (0 : Int32)), (3, .int r1)]) dX4_makeRoom_6 rfl (by decide) rfl [1, 2, 3, 0] rfl rfl ?_
  exact loop_7 1000 σ x1 (0 : Int32) r1 hF
def F_X4_lookUp (σ : Hp) (x1 : Int32) : Option (Hp) :=
  lm_bd (F_X2_holds (lm_sh 11 σ) x1) fun r1 =>
  lm_br (r1 = 0)
   (lm_lt (lm_u σ 16 1 ((σ 16 1) + (1 : Int32))) fun σ3 =>
   lm_bd (F_X5_size (lm_sh 4 σ3)) fun r4 =>
   lm_lt (lm_u σ3 16 2 ((σ3 16 2) + ((2 : Int32) + r4))) fun σ5 =>
   lm_bd (F_X0_weight (lm_sh 7 σ5) x1) fun r6 =>
   lm_br (r6 ≤ (σ5 15 0))
    (lm_bd (F_X2_take (lm_sh 11 σ5) x1) fun τ8 =>
    lm_lt (lm_sb σ5 11 4 τ8) fun σ9 =>
    lm_b2 (F_X4_makeRoom σ9 x1) fun r11 σ10 =>
    some σ10)
    (lm_lt (lm_u σ5 16 5 ((σ5 16 5) + (1 : Int32))) fun σ12 =>
    some σ12))
   (lm_lt (lm_u σ 16 0 ((σ 16 0) + (1 : Int32))) fun σ13 =>
   lm_lt (lm_u σ13 16 2 ((σ13 16 2) + (1 : Int32))) fun σ14 =>
   lm_bd (F_X2_touch (lm_sh 11 σ14) x1) fun τ15 =>
   lm_lt (lm_sb σ14 11 4 τ15) fun σ16 =>
   some σ16)
theorem in4_X4_lookUp : ∀ w ∈ u_ws RX4 TX4 8, w ∈ wsX4_lookUp := by decide +kernel
theorem fl31_X4_lookUp : Cond.fieldLink RX4 31 "LoopMemo$State" "memo" "LLoopMemo$Memo;" ∈ wsX4_lookUp := by decide +kernel
theorem fl47_X4_lookUp : Cond.fieldLink RX4 47 "LoopMemo$State" "tallies" "[I" ∈ wsX4_lookUp := by decide +kernel
theorem fl18_X4_lookUp : Cond.fieldLink RX4 18 "LoopMemo$State" "inner" "LLoopMemo$Table;" ∈ wsX4_lookUp := by decide +kernel
theorem fl24_X4_lookUp : Cond.fieldLink RX4 24 "LoopMemo$State" "answers" "LLoopMemo$Answers;" ∈ wsX4_lookUp := by decide +kernel
theorem fl44_X4_lookUp : Cond.fieldLink RX4 44 "LoopMemo$State" "settings" "[I" ∈ wsX4_lookUp := by decide +kernel
set_option maxRecDepth 100000 in
set_option maxHeartbeats 4000000 in
theorem m_X4_lookUp (D : va_G) (z zo : ClassId) (l : Launch) (a : Nat → Nat) (σ : Hp) (x1 : Int32)  (σ' : Hp) (hF : F_X4_lookUp σ x1 = some σ') : lm_C D z zo l yX4_lookUp wsX4_lookUp 3 70 [.ref (a 0), .int x1] (stW z a σ) none (stW z a σ') := by
  refine lm_C.of (by decide) rfl (Nat.le_of_ble_eq_true rfl) (own := RX4) rfl ?_
  intro p e s m_ args below meth c C hr hk hA
  show lm_St p l e ({ frames := 3, cells := 0, slots := 0, locals := 70 }) s m_ args below meth c D (va_A (stW z a σ) s.heap.size) 2 0 0 (lm_End below D none (stW z a σ) (stW z a σ') args s) false (stW z a σ) 0 [(0, .ref (a 0)), (1, .int x1)] []
  rw [F_X4_lookUp] at hF
  refine lm_aload_n C dX4_lookUp_0 rfl 0 rfl rfl ?_
  refine lm_getf C (T := TX4) (N := 8) (v := .ref (a 11)) in4_X4_lookUp 0 rfl rfl 3 (by decide) fl31_X4_lookUp rfl rfl dX4_lookUp_1 rfl ?_
  refine lm_iload_n C dX4_lookUp_4 rfl 1 rfl rfl ?_
  obtain ⟨r1, qr1, hF⟩ := lm_bde hF
  refine lm_callVR C (n := 1) (ci := 2) (m_X2_holds D z zo l (lm_sh 11 a) (lm_sh 11 σ) x1 r1 qr1) gX4_lookUp_X2_holds rfl (by decide +kernel) ⟨Nat.le_of_ble_eq_true rfl, Nat.le_of_ble_eq_true rfl⟩ ⟨Nat.le_of_ble_eq_true rfl, Nat.le_of_ble_eq_true rfl⟩ 11 rfl rfl (st_s11 z a σ) rfl rfl (Nat.le_of_ble_eq_true rfl) dX4_lookUp_5 (st' := [.int r1]) rfl rfl ?_
  refine lm_if_eq C (tgt := 40) dX4_lookUp_8 (by decide) rfl (fun c2 => ?_) (fun c2 => ?_)
  · have hF := lm_brt hF c2
    refine lm_aload_n C dX4_lookUp_40 rfl 0 rfl rfl ?_
    refine lm_getf C (T := TX4) (N := 8) (v := .ref (a 16)) in4_X4_lookUp 0 rfl rfl 5 (by decide) fl47_X4_lookUp rfl rfl dX4_lookUp_41 rfl ?_
    refine lm_iconst C (v := (1 : Int32)) dX4_lookUp_44 (by decide) rfl ?_
    refine lm_dup2 C dX4_lookUp_45 rfl rfl rfl ?_
    refine lm_iald C (v := (σ 16 1)) 16 rfl (by unfold vp_in; decide) rfl dX4_lookUp_46 rfl ?_
    refine lm_iconst C (v := (1 : Int32)) dX4_lookUp_47 (by decide) rfl ?_
    refine lm_iadd C dX4_lookUp_48 rfl rfl ?_
    obtain ⟨σ3, eσ3, hF⟩ := lm_lte hF
    refine lm_iast C (w' := (stW z a σ3)) 16 rfl (by unfold vp_in; decide) dX4_lookUp_49 (by rw [← eσ3]; rfl) rfl ?_
    refine lm_aload_n C dX4_lookUp_50 rfl 0 rfl rfl ?_
    refine lm_getf C (T := TX4) (N := 8) (v := .ref (a 16)) in4_X4_lookUp 0 rfl rfl 5 (by decide) fl47_X4_lookUp rfl rfl dX4_lookUp_51 rfl ?_
    refine lm_iconst C (v := (2 : Int32)) dX4_lookUp_54 (by decide) rfl ?_
    refine lm_dup2 C dX4_lookUp_55 rfl rfl rfl ?_
    refine lm_iald C (v := (σ3 16 2)) 16 rfl (by unfold vp_in; decide) rfl dX4_lookUp_56 rfl ?_
    refine lm_iconst C (v := (2 : Int32)) dX4_lookUp_57 (by decide) rfl ?_
    refine lm_aload_n C dX4_lookUp_58 rfl 0 rfl rfl ?_
    refine lm_getf C (T := TX4) (N := 8) (v := .ref (a 4)) in4_X4_lookUp 0 rfl rfl 1 (by decide) fl18_X4_lookUp rfl rfl dX4_lookUp_59 rfl ?_
    obtain ⟨r4, qr4, hF⟩ := lm_bde hF
    refine lm_callVR C (n := 0) (ci := 5) (m_X5_size D z zo l (lm_sh 4 a) (lm_sh 4 σ3)  r4 qr4) gX4_lookUp_X5_size rfl (by decide +kernel) ⟨Nat.le_of_ble_eq_true rfl, Nat.le_of_ble_eq_true rfl⟩ ⟨Nat.le_of_ble_eq_true rfl, Nat.le_of_ble_eq_true rfl⟩ 4 rfl rfl (st_s4 z a σ3) rfl rfl (Nat.le_of_ble_eq_true rfl) dX4_lookUp_62 (st' := [.int r4, .int (2 : Int32), .int (σ3 16 2), .int (2 : Int32), .ref (a 16)]) rfl rfl ?_
    refine lm_iadd C dX4_lookUp_65 rfl rfl ?_
    refine lm_iadd C dX4_lookUp_66 rfl rfl ?_
    obtain ⟨σ5, eσ5, hF⟩ := lm_lte hF
    refine lm_iast C (w' := (stW z a σ5)) 16 rfl (by unfold vp_in; decide) dX4_lookUp_67 (by rw [← eσ5]; rfl) rfl ?_
    refine lm_aload_n C dX4_lookUp_68 rfl 0 rfl rfl ?_
    refine lm_getf C (T := TX4) (N := 8) (v := .ref (a 7)) in4_X4_lookUp 0 rfl rfl 2 (by decide) fl24_X4_lookUp rfl rfl dX4_lookUp_69 rfl ?_
    refine lm_iload_n C dX4_lookUp_72 rfl 1 rfl rfl ?_
    obtain ⟨r6, qr6, hF⟩ := lm_bde hF
    refine lm_callVR C (n := 1) (ci := 0) (m_X0_weight D z zo l (lm_sh 7 a) (lm_sh 7 σ5) x1 r6 qr6) gX4_lookUp_X0_weight rfl (by decide +kernel) ⟨Nat.le_of_ble_eq_true rfl, Nat.le_of_ble_eq_true rfl⟩ ⟨Nat.le_of_ble_eq_true rfl, Nat.le_of_ble_eq_true rfl⟩ 7 rfl rfl (st_s7 z a σ5) rfl rfl (Nat.le_of_ble_eq_true rfl) dX4_lookUp_73 (st' := [.int r6]) rfl rfl ?_
    refine lm_aload_n C dX4_lookUp_76 rfl 0 rfl rfl ?_
    refine lm_getf C (T := TX4) (N := 8) (v := .ref (a 15)) in4_X4_lookUp 0 rfl rfl 4 (by decide) fl44_X4_lookUp rfl rfl dX4_lookUp_77 rfl ?_
    refine lm_iconst C (v := (0 : Int32)) dX4_lookUp_80 (by decide) rfl ?_
    refine lm_iald C (v := (σ5 15 0)) 15 rfl (by unfold vp_in; decide) rfl dX4_lookUp_81 rfl ?_
    refine lm_icmp_le C (tgt := 96) dX4_lookUp_82 (by decide) rfl (fun c7 => ?_) (fun c7 => ?_)
    · have hF := lm_brt hF c7
      refine lm_aload_n C dX4_lookUp_96 rfl 0 rfl rfl ?_
      refine lm_getf C (T := TX4) (N := 8) (v := .ref (a 11)) in4_X4_lookUp 0 rfl rfl 3 (by decide) fl31_X4_lookUp rfl rfl dX4_lookUp_97 rfl ?_
      refine lm_iload_n C dX4_lookUp_100 rfl 1 rfl rfl ?_
      obtain ⟨τ8, qτ8, hF⟩ := lm_bde hF
      obtain ⟨σ9, eσ9, hF⟩ := lm_lte hF
      refine lm_callV C (n := 1) (ci := 2) (w' := (stW z a σ9)) hA (m_X2_take D z zo l (lm_sh 11 a) (lm_sh 11 σ5) x1 τ8 qτ8) gX4_lookUp_X2_take rfl (by decide +kernel) ⟨Nat.le_of_ble_eq_true rfl, Nat.le_of_ble_eq_true rfl⟩ ⟨Nat.le_of_ble_eq_true rfl, Nat.le_of_ble_eq_true rfl⟩ 11 rfl rfl (st_g11 z a σ5) (by rw [← eσ9]; exact st_p11 z a σ5 τ8) rfl rfl (Nat.le_of_ble_eq_true rfl) dX4_lookUp_101 (st' := []) rfl rfl ?_
      refine lm_aload_n C dX4_lookUp_104 rfl 0 rfl rfl ?_
      refine lm_iload_n C dX4_lookUp_105 rfl 1 rfl rfl ?_
      obtain ⟨r11, σ10, qσ10, hF⟩ := lm_b2e hF
      refine lm_callV C (n := 1) (ci := 4) (w' := (stW z a σ10)) hA (m_X4_makeRoom D z zo l a σ9 x1 r11 σ10 qσ10) gX4_lookUp_X4_makeRoom rfl (by decide +kernel) ⟨Nat.le_of_ble_eq_true rfl, Nat.le_of_ble_eq_true rfl⟩ ⟨Nat.le_of_ble_eq_true rfl, Nat.le_of_ble_eq_true rfl⟩ 0 rfl rfl lm_pr lm_pr' rfl rfl (Nat.le_of_ble_eq_true rfl) dX4_lookUp_106 (st' := [.int r11]) rfl rfl ?_
      refine lm_pop C dX4_lookUp_109 rfl rfl ?_
      cases hF
      exact lm_vret C hr hk rfl rfl dX4_lookUp_110
    · have hF := lm_brf hF c7
      refine lm_aload_n C dX4_lookUp_85 rfl 0 rfl rfl ?_
      refine lm_getf C (T := TX4) (N := 8) (v := .ref (a 16)) in4_X4_lookUp 0 rfl rfl 5 (by decide) fl47_X4_lookUp rfl rfl dX4_lookUp_86 rfl ?_
      refine lm_iconst C (v := (5 : Int32)) dX4_lookUp_89 (by decide) rfl ?_
      refine lm_dup2 C dX4_lookUp_90 rfl rfl rfl ?_
      refine lm_iald C (v := (σ5 16 5)) 16 rfl (by unfold vp_in; decide) rfl dX4_lookUp_91 rfl ?_
      refine lm_iconst C (v := (1 : Int32)) dX4_lookUp_92 (by decide) rfl ?_
      refine lm_iadd C dX4_lookUp_93 rfl rfl ?_
      obtain ⟨σ12, eσ12, hF⟩ := lm_lte hF
      refine lm_iast C (w' := (stW z a σ12)) 16 rfl (by unfold vp_in; decide) dX4_lookUp_94 (by rw [← eσ12]; rfl) rfl ?_
      cases hF
      exact lm_vret C hr hk rfl rfl dX4_lookUp_95
  · have hF := lm_brf hF c2
    refine lm_aload_n C dX4_lookUp_11 rfl 0 rfl rfl ?_
    refine lm_getf C (T := TX4) (N := 8) (v := .ref (a 16)) in4_X4_lookUp 0 rfl rfl 5 (by decide) fl47_X4_lookUp rfl rfl dX4_lookUp_12 rfl ?_
    refine lm_iconst C (v := (0 : Int32)) dX4_lookUp_15 (by decide) rfl ?_
    refine lm_dup2 C dX4_lookUp_16 rfl rfl rfl ?_
    refine lm_iald C (v := (σ 16 0)) 16 rfl (by unfold vp_in; decide) rfl dX4_lookUp_17 rfl ?_
    refine lm_iconst C (v := (1 : Int32)) dX4_lookUp_18 (by decide) rfl ?_
    refine lm_iadd C dX4_lookUp_19 rfl rfl ?_
    obtain ⟨σ13, eσ13, hF⟩ := lm_lte hF
    refine lm_iast C (w' := (stW z a σ13)) 16 rfl (by unfold vp_in; decide) dX4_lookUp_20 (by rw [← eσ13]; rfl) rfl ?_
    refine lm_aload_n C dX4_lookUp_21 rfl 0 rfl rfl ?_
    refine lm_getf C (T := TX4) (N := 8) (v := .ref (a 16)) in4_X4_lookUp 0 rfl rfl 5 (by decide) fl47_X4_lookUp rfl rfl dX4_lookUp_22 rfl ?_
    refine lm_iconst C (v := (2 : Int32)) dX4_lookUp_25 (by decide) rfl ?_
    refine lm_dup2 C dX4_lookUp_26 rfl rfl rfl ?_
    refine lm_iald C (v := (σ13 16 2)) 16 rfl (by unfold vp_in; decide) rfl dX4_lookUp_27 rfl ?_
    refine lm_iconst C (v := (1 : Int32)) dX4_lookUp_28 (by decide) rfl ?_
    refine lm_iadd C dX4_lookUp_29 rfl rfl ?_
    obtain ⟨σ14, eσ14, hF⟩ := lm_lte hF
    refine lm_iast C (w' := (stW z a σ14)) 16 rfl (by unfold vp_in; decide) dX4_lookUp_30 (by rw [← eσ14]; rfl) rfl ?_
    refine lm_aload_n C dX4_lookUp_31 rfl 0 rfl rfl ?_
    refine lm_getf C (T := TX4) (N := 8) (v := .ref (a 11)) in4_X4_lookUp 0 rfl rfl 3 (by decide) fl31_X4_lookUp rfl rfl dX4_lookUp_32 rfl ?_
    refine lm_iload_n C dX4_lookUp_35 rfl 1 rfl rfl ?_
    obtain ⟨τ15, qτ15, hF⟩ := lm_bde hF
    obtain ⟨σ16, eσ16, hF⟩ := lm_lte hF
    refine lm_callV C (n := 1) (ci := 2) (w' := (stW z a σ16)) hA (m_X2_touch D z zo l (lm_sh 11 a) (lm_sh 11 σ14) x1 τ15 qτ15) gX4_lookUp_X2_touch rfl (by decide +kernel) ⟨Nat.le_of_ble_eq_true rfl, Nat.le_of_ble_eq_true rfl⟩ ⟨Nat.le_of_ble_eq_true rfl, Nat.le_of_ble_eq_true rfl⟩ 11 rfl rfl (st_g11 z a σ14) (by rw [← eσ16]; exact st_p11 z a σ14 τ15) rfl rfl (Nat.le_of_ble_eq_true rfl) dX4_lookUp_36 (st' := []) rfl rfl ?_
    cases hF
    exact lm_vret C hr hk rfl rfl dX4_lookUp_39
def F_X4_walk_L39 : Nat → Hp → Int32 → Int32 → Int32 → Option (Int32 × (Hp))
  | 0, _, _, _, _ => none
  | n + 1, σx, x1, x2, x3 =>
    lm_br (x1 ≤ x3)
     (some (((σx 16 2) - x2), σx))
     (lm_bd (F_X5_size (lm_sh 1 σx)) fun r6 =>
     lm_br (r6 ≤ (σx 0 6))
      (some (((σx 16 2) - x2), σx))
      (lm_bd (F_X5_key (lm_sh 1 σx) (σx 0 6)) fun r8 =>
      lm_bd (F_X4_lookUp σx r8) fun σ9 =>
      lm_bd (F_X5_value (lm_sh 1 σ9) (σ9 0 6)) fun r10 =>
      lm_bd (F_X0_sum (lm_sh 7 σ9) r8) fun r11 =>
      lm_lt (lm_u σ9 0 7 ((σ9 0 7) + (r10 * r11))) fun σ12 =>
      lm_lt (lm_u σ12 0 6 ((σ12 0 6) + (1 : Int32))) fun σ13 =>
      F_X4_walk_L39 n σ13 x1 x2 (x3 + (1 : Int32))))
def F_X4_walk (σ : Hp) (x1 : Int32) : Option (Int32 × (Hp)) :=
  lm_br (x1 < (1 : Int32))
   (some ((-1 : Int32), σ))
   (lm_br (x1 ≤ (20 : Int32))
    (lm_bd (F_X5_size (lm_sh 1 σ)) fun r3 =>
    lm_br ((σ 0 6) < r3)
     (F_X4_walk_L39 1000 σ x1 (σ 16 2) (0 : Int32))
     (some ((-2 : Int32), σ)))
    (some ((-1 : Int32), σ)))
theorem in4_X4_walk : ∀ w ∈ u_ws RX4 TX4 8, w ∈ wsX4_walk := by decide +kernel
theorem fl64_X4_walk : Cond.fieldLink RX4 64 "LoopMemo$State" "place" "I" ∈ wsX4_walk := by decide +kernel
theorem fl12_X4_walk : Cond.fieldLink RX4 12 "LoopMemo$State" "outer" "LLoopMemo$Table;" ∈ wsX4_walk := by decide +kernel
theorem fl47_X4_walk : Cond.fieldLink RX4 47 "LoopMemo$State" "tallies" "[I" ∈ wsX4_walk := by decide +kernel
theorem fl68_X4_walk : Cond.fieldLink RX4 68 "LoopMemo$State" "total" "I" ∈ wsX4_walk := by decide +kernel
theorem fl24_X4_walk : Cond.fieldLink RX4 24 "LoopMemo$State" "answers" "LLoopMemo$Answers;" ∈ wsX4_walk := by decide +kernel
set_option maxRecDepth 100000 in
set_option maxHeartbeats 4000000 in
theorem m_X4_walk (D : va_G) (z zo : ClassId) (l : Launch) (a : Nat → Nat) (σ : Hp) (x1 : Int32) (r : Int32) (σ' : Hp) (hF : F_X4_walk σ x1 = some (r, σ')) : lm_C D z zo l yX4_walk wsX4_walk 4 91 [.ref (a 0), .int x1] (stW z a σ) (some (.int r)) (stW z a σ') := by
  refine lm_C.of (by decide) rfl (Nat.le_of_ble_eq_true rfl) (own := RX4) rfl ?_
  intro p e s m_ args below meth c C hr hk hA
  have loop_39 : ∀ (n : Nat) (σx : Hp) (x1 : Int32) (x2 : Int32) (x3 : Int32), F_X4_walk_L39 n σx x1 x2 x3 = some (r, σ') → lm_St p l e ({ frames := 4, cells := 0, slots := 0, locals := 91 }) s m_ args below meth c D (va_A (stW z a σ) s.heap.size) 5 0 0 (lm_End below D (some (.int r)) (stW z a σ) (stW z a σ') args s) false (stW z a σx) 39 [(0, .ref (a 0)), (1, .int x1), (2, .int x2), (3, .int x3)] [] := by
    intro n
    induction n with
    | zero => intro σx x1 x2 x3 hF; cases (show (none : Option _) = some _ from hF)
    | succ n ih =>
      intro σx x1 x2 x3 hF
      rw [F_X4_walk_L39] at hF
      refine lm_iload_n C dX4_walk_39 rfl 3 rfl rfl ?_
      refine lm_iload_n C dX4_walk_40 rfl 1 rfl rfl ?_
      refine lm_icmp_ge C (tgt := 123) dX4_walk_41 (by decide) rfl (fun c5 => ?_) (fun c5 => ?_)
      · have hF := lm_brt hF c5
        refine lm_aload_n C dX4_walk_123 rfl 0 rfl rfl ?_
        refine lm_getf C (T := TX4) (N := 8) (v := .ref (a 16)) in4_X4_walk 0 rfl rfl 5 (by decide) fl47_X4_walk rfl rfl dX4_walk_124 rfl ?_
        refine lm_iconst C (v := (2 : Int32)) dX4_walk_127 (by decide) rfl ?_
        refine lm_iald C (v := (σx 16 2)) 16 rfl (by unfold vp_in; decide) rfl dX4_walk_128 rfl ?_
        refine lm_iload_n C dX4_walk_129 rfl 2 rfl rfl ?_
        refine lm_isub C dX4_walk_130 rfl rfl ?_
        cases hF
        exact lm_iret C hr hk rfl rfl dX4_walk_131
      · have hF := lm_brf hF c5
        refine lm_aload_n C dX4_walk_44 rfl 0 rfl rfl ?_
        refine lm_getf C (T := TX4) (N := 8) (v := .int (σx 0 6)) in4_X4_walk 0 rfl rfl 6 (by decide) fl64_X4_walk rfl rfl dX4_walk_45 rfl ?_
        refine lm_aload_n C dX4_walk_48 rfl 0 rfl rfl ?_
        refine lm_getf C (T := TX4) (N := 8) (v := .ref (a 1)) in4_X4_walk 0 rfl rfl 0 (by decide) fl12_X4_walk rfl rfl dX4_walk_49 rfl ?_
        obtain ⟨r6, qr6, hF⟩ := lm_bde hF
        refine lm_callVR C (n := 0) (ci := 5) (m_X5_size D z zo l (lm_sh 1 a) (lm_sh 1 σx)  r6 qr6) gX4_walk_X5_size rfl (by decide +kernel) ⟨Nat.le_of_ble_eq_true rfl, Nat.le_of_ble_eq_true rfl⟩ ⟨Nat.le_of_ble_eq_true rfl, Nat.le_of_ble_eq_true rfl⟩ 1 rfl rfl (st_s1 z a σx) rfl rfl (Nat.le_of_ble_eq_true rfl) dX4_walk_52 (st' := [.int r6, .int (σx 0 6)]) rfl rfl ?_
        refine lm_icmp_ge C (tgt := 123) dX4_walk_55 (by decide) rfl (fun c7 => ?_) (fun c7 => ?_)
        · have hF := lm_brt hF c7
          refine lm_aload_n C dX4_walk_123 rfl 0 rfl rfl ?_
          refine lm_getf C (T := TX4) (N := 8) (v := .ref (a 16)) in4_X4_walk 0 rfl rfl 5 (by decide) fl47_X4_walk rfl rfl dX4_walk_124 rfl ?_
          refine lm_iconst C (v := (2 : Int32)) dX4_walk_127 (by decide) rfl ?_
          refine lm_iald C (v := (σx 16 2)) 16 rfl (by unfold vp_in; decide) rfl dX4_walk_128 rfl ?_
          refine lm_iload_n C dX4_walk_129 rfl 2 rfl rfl ?_
          refine lm_isub C dX4_walk_130 rfl rfl ?_
          cases hF
          exact lm_iret C hr hk rfl rfl dX4_walk_131
        · have hF := lm_brf hF c7
          refine lm_aload_n C dX4_walk_58 rfl 0 rfl rfl ?_
          refine lm_getf C (T := TX4) (N := 8) (v := .ref (a 1)) in4_X4_walk 0 rfl rfl 0 (by decide) fl12_X4_walk rfl rfl dX4_walk_59 rfl ?_
          refine lm_aload_n C dX4_walk_62 rfl 0 rfl rfl ?_
          refine lm_getf C (T := TX4) (N := 8) (v := .int (σx 0 6)) in4_X4_walk 0 rfl rfl 6 (by decide) fl64_X4_walk rfl rfl dX4_walk_63 rfl ?_
          obtain ⟨r8, qr8, hF⟩ := lm_bde hF
          refine lm_callVR C (n := 1) (ci := 5) (m_X5_key D z zo l (lm_sh 1 a) (lm_sh 1 σx) (σx 0 6) r8 qr8) gX4_walk_X5_key rfl (by decide +kernel) ⟨Nat.le_of_ble_eq_true rfl, Nat.le_of_ble_eq_true rfl⟩ ⟨Nat.le_of_ble_eq_true rfl, Nat.le_of_ble_eq_true rfl⟩ 1 rfl rfl (st_s1 z a σx) rfl rfl (Nat.le_of_ble_eq_true rfl) dX4_walk_66 (st' := [.int r8]) rfl rfl ?_
          refine lm_istore C (lv' := [(0, .ref (a 0)), (1, .int x1), (2, .int x2), (3, .int x3), (4, .int r8)]) dX4_walk_69 (by decide) rfl [1, 2, 3, 4, 0] rfl rfl ?_
          refine lm_aload_n C dX4_walk_71 rfl 0 rfl rfl ?_
          refine lm_iload C dX4_walk_72 4 rfl rfl ?_
          obtain ⟨σ9, qσ9, hF⟩ := lm_bde hF
          refine lm_callV C (n := 1) (ci := 4) (w' := (stW z a σ9)) hA (m_X4_lookUp D z zo l a σx r8 σ9 qσ9) gX4_walk_X4_lookUp rfl (by decide +kernel) ⟨Nat.le_of_ble_eq_true rfl, Nat.le_of_ble_eq_true rfl⟩ ⟨Nat.le_of_ble_eq_true rfl, Nat.le_of_ble_eq_true rfl⟩ 0 rfl rfl lm_pr lm_pr' rfl rfl (Nat.le_of_ble_eq_true rfl) dX4_walk_74 (st' := []) rfl rfl ?_
          refine lm_aload_n C dX4_walk_77 rfl 0 rfl rfl ?_
          refine lm_dup C dX4_walk_78 rfl rfl ?_
          refine lm_getf C (T := TX4) (N := 8) (v := .int (σ9 0 7)) in4_X4_walk 0 rfl rfl 7 (by decide) fl68_X4_walk rfl rfl dX4_walk_79 rfl ?_
          refine lm_aload_n C dX4_walk_82 rfl 0 rfl rfl ?_
          refine lm_getf C (T := TX4) (N := 8) (v := .ref (a 1)) in4_X4_walk 0 rfl rfl 0 (by decide) fl12_X4_walk rfl rfl dX4_walk_83 rfl ?_
          refine lm_aload_n C dX4_walk_86 rfl 0 rfl rfl ?_
          refine lm_getf C (T := TX4) (N := 8) (v := .int (σ9 0 6)) in4_X4_walk 0 rfl rfl 6 (by decide) fl64_X4_walk rfl rfl dX4_walk_87 rfl ?_
          obtain ⟨r10, qr10, hF⟩ := lm_bde hF
          refine lm_callVR C (n := 1) (ci := 5) (m_X5_value D z zo l (lm_sh 1 a) (lm_sh 1 σ9) (σ9 0 6) r10 qr10) gX4_walk_X5_value rfl (by decide +kernel) ⟨Nat.le_of_ble_eq_true rfl, Nat.le_of_ble_eq_true rfl⟩ ⟨Nat.le_of_ble_eq_true rfl, Nat.le_of_ble_eq_true rfl⟩ 1 rfl rfl (st_s1 z a σ9) rfl rfl (Nat.le_of_ble_eq_true rfl) dX4_walk_90 (st' := [.int r10, .int (σ9 0 7), .ref (a 0)]) rfl rfl ?_
          refine lm_aload_n C dX4_walk_93 rfl 0 rfl rfl ?_
          refine lm_getf C (T := TX4) (N := 8) (v := .ref (a 7)) in4_X4_walk 0 rfl rfl 2 (by decide) fl24_X4_walk rfl rfl dX4_walk_94 rfl ?_
          refine lm_iload C dX4_walk_97 4 rfl rfl ?_
          obtain ⟨r11, qr11, hF⟩ := lm_bde hF
          refine lm_callVR C (n := 1) (ci := 0) (m_X0_sum D z zo l (lm_sh 7 a) (lm_sh 7 σ9) r8 r11 qr11) gX4_walk_X0_sum rfl (by decide +kernel) ⟨Nat.le_of_ble_eq_true rfl, Nat.le_of_ble_eq_true rfl⟩ ⟨Nat.le_of_ble_eq_true rfl, Nat.le_of_ble_eq_true rfl⟩ 7 rfl rfl (st_s7 z a σ9) rfl rfl (Nat.le_of_ble_eq_true rfl) dX4_walk_99 (st' := [.int r11, .int r10, .int (σ9 0 7), .ref (a 0)]) rfl rfl ?_
          refine lm_imul C dX4_walk_102 rfl rfl ?_
          refine lm_iadd C dX4_walk_103 rfl rfl ?_
          obtain ⟨σ12, eσ12, hF⟩ := lm_lte hF
          refine lm_putf C (T := TX4) (N := 8) (ty := .int) (v := .int ((σ9 0 7) + (r10 * r11))) (w' := (stW z a σ12)) in4_X4_walk tyX4 tyX4_ok nmX4 0 rfl rfl 7 (by decide) fl68_X4_walk rfl rfl rfl rfl rfl (Nat.le_of_ble_eq_true rfl) dX4_walk_104 (by rw [← eσ12]; rfl) rfl ?_
          refine lm_aload_n C dX4_walk_107 rfl 0 rfl rfl ?_
          refine lm_dup C dX4_walk_108 rfl rfl ?_
          refine lm_getf C (T := TX4) (N := 8) (v := .int (σ12 0 6)) in4_X4_walk 0 rfl rfl 6 (by decide) fl64_X4_walk rfl rfl dX4_walk_109 rfl ?_
          refine lm_iconst C (v := (1 : Int32)) dX4_walk_112 (by decide) rfl ?_
          refine lm_iadd C dX4_walk_113 rfl rfl ?_
          obtain ⟨σ13, eσ13, hF⟩ := lm_lte hF
          refine lm_putf C (T := TX4) (N := 8) (ty := .int) (v := .int ((σ12 0 6) + (1 : Int32))) (w' := (stW z a σ13)) in4_X4_walk tyX4 tyX4_ok nmX4 0 rfl rfl 6 (by decide) fl64_X4_walk rfl rfl rfl rfl rfl (Nat.le_of_ble_eq_true rfl) dX4_walk_114 (by rw [← eσ13]; rfl) rfl ?_
          refine lm_iinc C (lv' := [(0, .ref (a 0)), (1, .int x1), (2, .int x2), (3, .int (x3 + (1 : Int32))), (4, .int r8)]) (x3 + (1 : Int32)) dX4_walk_117 3 rfl rfl (by decide) rfl [1, 2, 3, 0, 4] rfl rfl ?_
          refine lm_goto C (tgt := 39) dX4_walk_120 (by decide) ?_
          refine lm_lvsub (lv' := [(0, .ref (a 0)), (1, .int x1), (2, .int x2), (3, .int (x3 + (1 : Int32)))]) [0, 1, 2, 3] rfl ?_
          exact ih σ13 x1 x2 (x3 + (1 : Int32)) hF
  show lm_St p l e ({ frames := 4, cells := 0, slots := 0, locals := 91 }) s m_ args below meth c D (va_A (stW z a σ) s.heap.size) 5 0 0 (lm_End below D (some (.int r)) (stW z a σ) (stW z a σ') args s) false (stW z a σ) 0 [(0, .ref (a 0)), (1, .int x1)] []
  rw [F_X4_walk] at hF
  refine lm_iload_n C dX4_walk_0 rfl 1 rfl rfl ?_
  refine lm_iconst C (v := (1 : Int32)) dX4_walk_1 (by decide) rfl ?_
  refine lm_icmp_lt C (tgt := 11) dX4_walk_2 (by decide) rfl (fun c1 => ?_) (fun c1 => ?_)
  · have hF := lm_brt hF c1
    refine lm_iconst C (v := (-1 : Int32)) dX4_walk_11 (by decide) rfl ?_
    cases hF
    exact lm_iret C hr hk rfl rfl dX4_walk_12
  · have hF := lm_brf hF c1
    refine lm_iload_n C dX4_walk_5 rfl 1 rfl rfl ?_
    refine lm_bipush C (v := (20 : Int32)) dX4_walk_6 (by decide) rfl ?_
    refine lm_icmp_le C (tgt := 13) dX4_walk_8 (by decide) rfl (fun c2 => ?_) (fun c2 => ?_)
    · have hF := lm_brt hF c2
      refine lm_aload_n C dX4_walk_13 rfl 0 rfl rfl ?_
      refine lm_getf C (T := TX4) (N := 8) (v := .int (σ 0 6)) in4_X4_walk 0 rfl rfl 6 (by decide) fl64_X4_walk rfl rfl dX4_walk_14 rfl ?_
      refine lm_aload_n C dX4_walk_17 rfl 0 rfl rfl ?_
      refine lm_getf C (T := TX4) (N := 8) (v := .ref (a 1)) in4_X4_walk 0 rfl rfl 0 (by decide) fl12_X4_walk rfl rfl dX4_walk_18 rfl ?_
      obtain ⟨r3, qr3, hF⟩ := lm_bde hF
      refine lm_callVR C (n := 0) (ci := 5) (m_X5_size D z zo l (lm_sh 1 a) (lm_sh 1 σ)  r3 qr3) gX4_walk_X5_size rfl (by decide +kernel) ⟨Nat.le_of_ble_eq_true rfl, Nat.le_of_ble_eq_true rfl⟩ ⟨Nat.le_of_ble_eq_true rfl, Nat.le_of_ble_eq_true rfl⟩ 1 rfl rfl (st_s1 z a σ) rfl rfl (Nat.le_of_ble_eq_true rfl) dX4_walk_21 (st' := [.int r3, .int (σ 0 6)]) rfl rfl ?_
      refine lm_icmp_lt C (tgt := 30) dX4_walk_24 (by decide) rfl (fun c4 => ?_) (fun c4 => ?_)
      · have hF := lm_brt hF c4
        refine lm_aload_n C dX4_walk_30 rfl 0 rfl rfl ?_
        refine lm_getf C (T := TX4) (N := 8) (v := .ref (a 16)) in4_X4_walk 0 rfl rfl 5 (by decide) fl47_X4_walk rfl rfl dX4_walk_31 rfl ?_
        refine lm_iconst C (v := (2 : Int32)) dX4_walk_34 (by decide) rfl ?_
        refine lm_iald C (v := (σ 16 2)) 16 rfl (by unfold vp_in; decide) rfl dX4_walk_35 rfl ?_
        refine lm_istore_n C (lv' := [(0, .ref (a 0)), (1, .int x1), (2, .int (σ 16 2))]) dX4_walk_36 rfl (by decide) rfl [1, 2, 0] rfl rfl ?_
        refine lm_iconst C (v := (0 : Int32)) dX4_walk_37 (by decide) rfl ?_
        refine lm_istore_n C (lv' := [(0, .ref (a 0)), (1, .int x1), (2, .int (σ 16 2)), (3, .int (0 : Int32))]) dX4_walk_38 rfl (by decide) rfl [1, 2, 3, 0] rfl rfl ?_
        exact loop_39 1000 σ x1 (σ 16 2) (0 : Int32) hF
      · have hF := lm_brf hF c4
        refine lm_bipush C (v := (-2 : Int32)) dX4_walk_27 (by decide) rfl ?_
        cases hF
        exact lm_iret C hr hk rfl rfl dX4_walk_29
    · have hF := lm_brf hF c2
      refine lm_iconst C (v := (-1 : Int32)) dX4_walk_11 (by decide) rfl ?_
      cases hF
      exact lm_iret C hr hk rfl rfl dX4_walk_12
def F_X4_beginAgain (σ : Hp)  : Option (Int32 × (Hp)) :=
  lm_lt (lm_u σ 0 6 (0 : Int32)) fun σ1 =>
  lm_lt (lm_u σ1 0 7 (0 : Int32)) fun σ2 =>
  some ((σ 0 7), σ2)
theorem in4_X4_beginAgain : ∀ w ∈ u_ws RX4 TX4 8, w ∈ wsX4_beginAgain := by decide +kernel
theorem fl68_X4_beginAgain : Cond.fieldLink RX4 68 "LoopMemo$State" "total" "I" ∈ wsX4_beginAgain := by decide +kernel
theorem fl64_X4_beginAgain : Cond.fieldLink RX4 64 "LoopMemo$State" "place" "I" ∈ wsX4_beginAgain := by decide +kernel
set_option maxRecDepth 100000 in
set_option maxHeartbeats 4000000 in
theorem m_X4_beginAgain (D : va_G) (z zo : ClassId) (l : Launch) (a : Nat → Nat) (σ : Hp)  (r : Int32) (σ' : Hp) (hF : F_X4_beginAgain σ  = some (r, σ')) : lm_C D z zo l yX4_beginAgain wsX4_beginAgain 0 0 [.ref (a 0)] (stW z a σ) (some (.int r)) (stW z a σ') := by
  refine lm_C.of (by decide) rfl (Nat.le_of_ble_eq_true rfl) (own := RX4) rfl ?_
  intro p e s m_ args below meth c C hr hk hA
  show lm_St p l e ({ frames := 0, cells := 0, slots := 0, locals := 0 }) s m_ args below meth c D (va_A (stW z a σ) s.heap.size) 2 0 0 (lm_End below D (some (.int r)) (stW z a σ) (stW z a σ') args s) false (stW z a σ) 0 [(0, .ref (a 0))] []
  rw [F_X4_beginAgain] at hF
  refine lm_aload_n C dX4_beginAgain_0 rfl 0 rfl rfl ?_
  refine lm_getf C (T := TX4) (N := 8) (v := .int (σ 0 7)) in4_X4_beginAgain 0 rfl rfl 7 (by decide) fl68_X4_beginAgain rfl rfl dX4_beginAgain_1 rfl ?_
  refine lm_istore_n C (lv' := [(0, .ref (a 0)), (1, .int (σ 0 7))]) dX4_beginAgain_4 rfl (by decide) rfl [1, 0] rfl rfl ?_
  refine lm_aload_n C dX4_beginAgain_5 rfl 0 rfl rfl ?_
  refine lm_iconst C (v := (0 : Int32)) dX4_beginAgain_6 (by decide) rfl ?_
  obtain ⟨σ1, eσ1, hF⟩ := lm_lte hF
  refine lm_putf C (T := TX4) (N := 8) (ty := .int) (v := .int (0 : Int32)) (w' := (stW z a σ1)) in4_X4_beginAgain tyX4 tyX4_ok nmX4 0 rfl rfl 6 (by decide) fl64_X4_beginAgain rfl rfl rfl rfl rfl (Nat.le_of_ble_eq_true rfl) dX4_beginAgain_7 (by rw [← eσ1]; rfl) rfl ?_
  refine lm_aload_n C dX4_beginAgain_10 rfl 0 rfl rfl ?_
  refine lm_iconst C (v := (0 : Int32)) dX4_beginAgain_11 (by decide) rfl ?_
  obtain ⟨σ2, eσ2, hF⟩ := lm_lte hF
  refine lm_putf C (T := TX4) (N := 8) (ty := .int) (v := .int (0 : Int32)) (w' := (stW z a σ2)) in4_X4_beginAgain tyX4 tyX4_ok nmX4 0 rfl rfl 7 (by decide) fl68_X4_beginAgain rfl rfl rfl rfl rfl (Nat.le_of_ble_eq_true rfl) dX4_beginAgain_12 (by rw [← eσ2]; rfl) rfl ?_
  refine lm_iload_n C dX4_beginAgain_15 rfl 1 rfl rfl ?_
  cases hF
  exact lm_iret C hr hk rfl rfl dX4_beginAgain_16
def F_X4_adjust (σ : Hp) (x1 x2 : Int32) : Option (Int32 × (Hp)) :=
  lm_br (x1 < 0)
   (some ((-1 : Int32), σ))
   (lm_br ((4 : Int32) < x1)
    (some ((-1 : Int32), σ))
    (lm_br (x2 < 0)
     (some ((-1 : Int32), σ))
     (lm_gi x1 5
     (lm_br (x2 ≤ (lm_hsI (x1).toNatClampNeg))
      (lm_gi x1 5
      (lm_lt (lm_u σ 15 (x1.toNatClampNeg) x2) fun σ7 =>
      lm_br (¬ x1 = 0)
       (lm_bd (F_X4_findAnswers σ7) fun σ9 =>
       lm_b2 (F_X4_throwAllOut σ9) fun r11 σ10 =>
       some (r11, σ10))
       (lm_b2 (F_X4_makeRoom σ7 (-1 : Int32)) fun r13 σ12 =>
       some (r13, σ12))))
      (some ((-1 : Int32), σ))))))
theorem in4_X4_adjust : ∀ w ∈ u_ws RX4 TX4 8, w ∈ wsX4_adjust := by decide +kernel
theorem fl44_X4_adjust : Cond.fieldLink RX4 44 "LoopMemo$State" "settings" "[I" ∈ wsX4_adjust := by decide +kernel
theorem fl128_X4_adjust : Cond.fieldLink RX4 128 "LoopMemo$State" "HIGHEST_SETTINGS" "[I" ∈ wsX4_adjust := by decide +kernel
set_option maxRecDepth 100000 in
set_option maxHeartbeats 4000000 in
theorem m_X4_adjust (D : va_G) (z zo : ClassId) (l : Launch) (a : Nat → Nat) (σ : Hp) (x1 x2 : Int32) (r : Int32) (σ' : Hp) (hF : F_X4_adjust σ x1 x2 = some (r, σ')) : lm_C D z zo l yX4_adjust wsX4_adjust 3 70 [.ref (a 0), .int x1, .int x2] (stW z a σ) (some (.int r)) (stW z a σ') := by
  refine lm_C.of (by decide) rfl (Nat.le_of_ble_eq_true rfl) (own := RX4) rfl ?_
  intro p e s m_ args below meth c C hr hk hA
  show lm_St p l e ({ frames := 3, cells := 0, slots := 0, locals := 70 }) s m_ args below meth c D (va_A (stW z a σ) s.heap.size) 3 0 0 (lm_End below D (some (.int r)) (stW z a σ) (stW z a σ') args s) false (stW z a σ) 0 [(0, .ref (a 0)), (1, .int x1), (2, .int x2)] []
  rw [F_X4_adjust] at hF
  refine lm_iload_n C dX4_adjust_0 rfl 1 rfl rfl ?_
  refine lm_if_lt C (tgt := 22) dX4_adjust_1 (by decide) rfl (fun c1 => ?_) (fun c1 => ?_)
  · have hF := lm_brt hF c1
    refine lm_iconst C (v := (-1 : Int32)) dX4_adjust_22 (by decide) rfl ?_
    cases hF
    exact lm_iret C hr hk rfl rfl dX4_adjust_23
  · have hF := lm_brf hF c1
    refine lm_iload_n C dX4_adjust_4 rfl 1 rfl rfl ?_
    refine lm_iconst C (v := (4 : Int32)) dX4_adjust_5 (by decide) rfl ?_
    refine lm_icmp_gt C (tgt := 22) dX4_adjust_6 (by decide) rfl (fun c2 => ?_) (fun c2 => ?_)
    · have hF := lm_brt hF c2
      refine lm_iconst C (v := (-1 : Int32)) dX4_adjust_22 (by decide) rfl ?_
      cases hF
      exact lm_iret C hr hk rfl rfl dX4_adjust_23
    · have hF := lm_brf hF c2
      refine lm_iload_n C dX4_adjust_9 rfl 2 rfl rfl ?_
      refine lm_if_lt C (tgt := 22) dX4_adjust_10 (by decide) rfl (fun c3 => ?_) (fun c3 => ?_)
      · have hF := lm_brt hF c3
        refine lm_iconst C (v := (-1 : Int32)) dX4_adjust_22 (by decide) rfl ?_
        cases hF
        exact lm_iret C hr hk rfl rfl dX4_adjust_23
      · have hF := lm_brf hF c3
        refine lm_iload_n C dX4_adjust_13 rfl 2 rfl rfl ?_
        refine lm_getsH C hA fl128_X4_adjust dX4_adjust_14 rfl (fun t4 hTt4 => ?_)
        refine lm_iload_n C dX4_adjust_17 rfl 1 rfl rfl ?_
        obtain ⟨b5, hF⟩ := lm_gie hF
        refine lm_tiald C (f := lm_hsI) (v := (lm_hsI (x1).toNatClampNeg)) hTt4 b5 rfl dX4_adjust_18 rfl ?_
        refine lm_icmp_le C (tgt := 24) dX4_adjust_19 (by decide) rfl (fun c6 => ?_) (fun c6 => ?_)
        · have hF := lm_brt hF c6
          refine lm_aload_n C dX4_adjust_24 rfl 0 rfl rfl ?_
          refine lm_getf C (T := TX4) (N := 8) (v := .ref (a 15)) in4_X4_adjust 0 rfl rfl 4 (by decide) fl44_X4_adjust rfl rfl dX4_adjust_25 rfl ?_
          refine lm_iload_n C dX4_adjust_28 rfl 1 rfl rfl ?_
          refine lm_iload_n C dX4_adjust_29 rfl 2 rfl rfl ?_
          obtain ⟨b14, hF⟩ := lm_gie hF
          obtain ⟨σ7, eσ7, hF⟩ := lm_lte hF
          refine lm_iast C (w' := (stW z a σ7)) 15 rfl b14 dX4_adjust_30 (by rw [← eσ7]; rfl) rfl ?_
          refine lm_iload_n C dX4_adjust_31 rfl 1 rfl rfl ?_
          refine lm_if_ne C (tgt := 41) dX4_adjust_32 (by decide) rfl (fun c8 => ?_) (fun c8 => ?_)
          · have hF := lm_brt hF c8
            refine lm_aload_n C dX4_adjust_41 rfl 0 rfl rfl ?_
            obtain ⟨σ9, qσ9, hF⟩ := lm_bde hF
            refine lm_callV C (n := 0) (ci := 4) (w' := (stW z a σ9)) hA (m_X4_findAnswers D z zo l a σ7  σ9 qσ9) gX4_adjust_X4_findAnswers rfl (by decide +kernel) ⟨Nat.le_of_ble_eq_true rfl, Nat.le_of_ble_eq_true rfl⟩ ⟨Nat.le_of_ble_eq_true rfl, Nat.le_of_ble_eq_true rfl⟩ 0 rfl rfl lm_pr lm_pr' rfl rfl (Nat.le_of_ble_eq_true rfl) dX4_adjust_42 (st' := []) rfl rfl ?_
            refine lm_aload_n C dX4_adjust_45 rfl 0 rfl rfl ?_
            obtain ⟨r11, σ10, qσ10, hF⟩ := lm_b2e hF
            refine lm_callV C (n := 0) (ci := 4) (w' := (stW z a σ10)) hA (m_X4_throwAllOut D z zo l a σ9  r11 σ10 qσ10) gX4_adjust_X4_throwAllOut rfl (by decide +kernel) ⟨Nat.le_of_ble_eq_true rfl, Nat.le_of_ble_eq_true rfl⟩ ⟨Nat.le_of_ble_eq_true rfl, Nat.le_of_ble_eq_true rfl⟩ 0 rfl rfl lm_pr lm_pr' rfl rfl (Nat.le_of_ble_eq_true rfl) dX4_adjust_46 (st' := [.int r11]) rfl rfl ?_
            cases hF
            exact lm_iret C hr hk rfl rfl dX4_adjust_49
          · have hF := lm_brf hF c8
            refine lm_aload_n C dX4_adjust_35 rfl 0 rfl rfl ?_
            refine lm_iconst C (v := (-1 : Int32)) dX4_adjust_36 (by decide) rfl ?_
            obtain ⟨r13, σ12, qσ12, hF⟩ := lm_b2e hF
            refine lm_callV C (n := 1) (ci := 4) (w' := (stW z a σ12)) hA (m_X4_makeRoom D z zo l a σ7 (-1 : Int32) r13 σ12 qσ12) gX4_adjust_X4_makeRoom rfl (by decide +kernel) ⟨Nat.le_of_ble_eq_true rfl, Nat.le_of_ble_eq_true rfl⟩ ⟨Nat.le_of_ble_eq_true rfl, Nat.le_of_ble_eq_true rfl⟩ 0 rfl rfl lm_pr lm_pr' rfl rfl (Nat.le_of_ble_eq_true rfl) dX4_adjust_37 (st' := [.int r13]) rfl rfl ?_
            cases hF
            exact lm_iret C hr hk rfl rfl dX4_adjust_40
        · have hF := lm_brf hF c6
          refine lm_iconst C (v := (-1 : Int32)) dX4_adjust_22 (by decide) rfl ?_
          cases hF
          exact lm_iret C hr hk rfl rfl dX4_adjust_23
def F_X4_totalByAnswers_L4 : Nat → Hp → Int32 → Int32 → Option Int32
  | 0, _, _, _ => none
  | n + 1, σx, x1, x2 =>
    lm_bd (F_X5_size (lm_sh 1 σx)) fun r1 =>
    lm_br (r1 ≤ x2)
     (some x1)
     (lm_bd (F_X5_value (lm_sh 1 σx) x2) fun r3 =>
     lm_bd (F_X5_key (lm_sh 1 σx) x2) fun r4 =>
     lm_bd (F_X0_sum (lm_sh 7 σx) r4) fun r5 =>
     F_X4_totalByAnswers_L4 n σx (x1 + (r3 * r5)) (x2 + (1 : Int32)))
def F_X4_totalByAnswers (σ : Hp)  : Option Int32 :=
  F_X4_totalByAnswers_L4 1000 σ (0 : Int32) (0 : Int32)
theorem in4_X4_totalByAnswers : ∀ w ∈ u_ws RX4 TX4 8, w ∈ wsX4_totalByAnswers := by decide +kernel
theorem fl12_X4_totalByAnswers : Cond.fieldLink RX4 12 "LoopMemo$State" "outer" "LLoopMemo$Table;" ∈ wsX4_totalByAnswers := by decide +kernel
theorem fl24_X4_totalByAnswers : Cond.fieldLink RX4 24 "LoopMemo$State" "answers" "LLoopMemo$Answers;" ∈ wsX4_totalByAnswers := by decide +kernel
set_option maxRecDepth 100000 in
set_option maxHeartbeats 4000000 in
theorem m_X4_totalByAnswers (D : va_G) (z zo : ClassId) (l : Launch) (a : Nat → Nat) (σ : Hp)  (r : Int32)  (hF : F_X4_totalByAnswers σ  = some r) : lm_CR D z zo l yX4_totalByAnswers wsX4_totalByAnswers 1 21 [.ref (a 0)] (stW z a σ) (some (.int r)) := by
  refine lm_CR.of (by decide) rfl (Nat.le_of_ble_eq_true rfl) (own := RX4) rfl ?_
  intro p e s m_ args below meth c C hr hk
  have loop_4 : ∀ (n : Nat) (σx : Hp) (x1 : Int32) (x2 : Int32), F_X4_totalByAnswers_L4 n σx x1 x2 = some r → lm_St p l e ({ frames := 1, cells := 0, slots := 0, locals := 21 }) s m_ args below meth c D (fun _ => False) 3 0 0 (lm_EndR below (some (.int r)) args s) true (stW z a σx) 4 [(0, .ref (a 0)), (1, .int x1), (2, .int x2)] [] := by
    intro n
    induction n with
    | zero => intro σx x1 x2 hF; cases (show (none : Option _) = some _ from hF)
    | succ n ih =>
      intro σx x1 x2 hF
      rw [F_X4_totalByAnswers_L4] at hF
      refine lm_iload_n C dX4_totalByAnswers_4 rfl 2 rfl rfl ?_
      refine lm_aload_n C dX4_totalByAnswers_5 rfl 0 rfl rfl ?_
      refine lm_getf C (T := TX4) (N := 8) (v := .ref (a 1)) in4_X4_totalByAnswers 0 rfl rfl 0 (by decide) fl12_X4_totalByAnswers rfl rfl dX4_totalByAnswers_6 rfl ?_
      obtain ⟨r1, qr1, hF⟩ := lm_bde hF
      refine lm_callVR C (n := 0) (ci := 5) (m_X5_size D z zo l (lm_sh 1 a) (lm_sh 1 σx)  r1 qr1) gX4_totalByAnswers_X5_size rfl (by decide +kernel) ⟨Nat.le_of_ble_eq_true rfl, Nat.le_of_ble_eq_true rfl⟩ ⟨Nat.le_of_ble_eq_true rfl, Nat.le_of_ble_eq_true rfl⟩ 1 rfl rfl (st_s1 z a σx) rfl rfl (Nat.le_of_ble_eq_true rfl) dX4_totalByAnswers_9 (st' := [.int r1, .int x2]) rfl rfl ?_
      refine lm_icmp_ge C (tgt := 48) dX4_totalByAnswers_12 (by decide) rfl (fun c2 => ?_) (fun c2 => ?_)
      · have hF := lm_brt hF c2
        refine lm_iload_n C dX4_totalByAnswers_48 rfl 1 rfl rfl ?_
        cases hF
        exact lm_iretR C hr hk rfl dX4_totalByAnswers_49
      · have hF := lm_brf hF c2
        refine lm_iload_n C dX4_totalByAnswers_15 rfl 1 rfl rfl ?_
        refine lm_aload_n C dX4_totalByAnswers_16 rfl 0 rfl rfl ?_
        refine lm_getf C (T := TX4) (N := 8) (v := .ref (a 1)) in4_X4_totalByAnswers 0 rfl rfl 0 (by decide) fl12_X4_totalByAnswers rfl rfl dX4_totalByAnswers_17 rfl ?_
        refine lm_iload_n C dX4_totalByAnswers_20 rfl 2 rfl rfl ?_
        obtain ⟨r3, qr3, hF⟩ := lm_bde hF
        refine lm_callVR C (n := 1) (ci := 5) (m_X5_value D z zo l (lm_sh 1 a) (lm_sh 1 σx) x2 r3 qr3) gX4_totalByAnswers_X5_value rfl (by decide +kernel) ⟨Nat.le_of_ble_eq_true rfl, Nat.le_of_ble_eq_true rfl⟩ ⟨Nat.le_of_ble_eq_true rfl, Nat.le_of_ble_eq_true rfl⟩ 1 rfl rfl (st_s1 z a σx) rfl rfl (Nat.le_of_ble_eq_true rfl) dX4_totalByAnswers_21 (st' := [.int r3, .int x1]) rfl rfl ?_
        refine lm_aload_n C dX4_totalByAnswers_24 rfl 0 rfl rfl ?_
        refine lm_getf C (T := TX4) (N := 8) (v := .ref (a 7)) in4_X4_totalByAnswers 0 rfl rfl 2 (by decide) fl24_X4_totalByAnswers rfl rfl dX4_totalByAnswers_25 rfl ?_
        refine lm_aload_n C dX4_totalByAnswers_28 rfl 0 rfl rfl ?_
        refine lm_getf C (T := TX4) (N := 8) (v := .ref (a 1)) in4_X4_totalByAnswers 0 rfl rfl 0 (by decide) fl12_X4_totalByAnswers rfl rfl dX4_totalByAnswers_29 rfl ?_
        refine lm_iload_n C dX4_totalByAnswers_32 rfl 2 rfl rfl ?_
        obtain ⟨r4, qr4, hF⟩ := lm_bde hF
        refine lm_callVR C (n := 1) (ci := 5) (m_X5_key D z zo l (lm_sh 1 a) (lm_sh 1 σx) x2 r4 qr4) gX4_totalByAnswers_X5_key rfl (by decide +kernel) ⟨Nat.le_of_ble_eq_true rfl, Nat.le_of_ble_eq_true rfl⟩ ⟨Nat.le_of_ble_eq_true rfl, Nat.le_of_ble_eq_true rfl⟩ 1 rfl rfl (st_s1 z a σx) rfl rfl (Nat.le_of_ble_eq_true rfl) dX4_totalByAnswers_33 (st' := [.int r4, .ref (a 7), .int r3, .int x1]) rfl rfl ?_
        obtain ⟨r5, qr5, hF⟩ := lm_bde hF
        refine lm_callVR C (n := 1) (ci := 0) (m_X0_sum D z zo l (lm_sh 7 a) (lm_sh 7 σx) r4 r5 qr5) gX4_totalByAnswers_X0_sum rfl (by decide +kernel) ⟨Nat.le_of_ble_eq_true rfl, Nat.le_of_ble_eq_true rfl⟩ ⟨Nat.le_of_ble_eq_true rfl, Nat.le_of_ble_eq_true rfl⟩ 7 rfl rfl (st_s7 z a σx) rfl rfl (Nat.le_of_ble_eq_true rfl) dX4_totalByAnswers_36 (st' := [.int r5, .int r3, .int x1]) rfl rfl ?_
        refine lm_imul C dX4_totalByAnswers_39 rfl rfl ?_
        refine lm_iadd C dX4_totalByAnswers_40 rfl rfl ?_
        refine lm_istore_n C (lv' := [(0, .ref (a 0)), (1, .int (x1 + (r3 * r5))), (2, .int x2)]) dX4_totalByAnswers_41 rfl (by decide) rfl [1, 0, 2] rfl rfl ?_
        refine lm_iinc C (lv' := [(0, .ref (a 0)), (1, .int (x1 + (r3 * r5))), (2, .int (x2 + (1 : Int32)))]) (x2 + (1 : Int32)) dX4_totalByAnswers_42 2 rfl rfl (by decide) rfl [1, 2, 0] rfl rfl ?_
        refine lm_goto C (tgt := 4) dX4_totalByAnswers_45 (by decide) ?_
        exact ih σx (x1 + (r3 * r5)) (x2 + (1 : Int32)) hF
  show lm_St p l e ({ frames := 1, cells := 0, slots := 0, locals := 21 }) s m_ args below meth c D (fun _ => False) 3 0 0 (lm_EndR below (some (.int r)) args s) true (stW z a σ) 0 [(0, .ref (a 0))] []
  rw [F_X4_totalByAnswers] at hF
  refine lm_iconst C (v := (0 : Int32)) dX4_totalByAnswers_0 (by decide) rfl ?_
  refine lm_istore_n C (lv' := [(0, .ref (a 0)), (1, .int (0 : Int32))]) dX4_totalByAnswers_1 rfl (by decide) rfl [1, 0] rfl rfl ?_
  refine lm_iconst C (v := (0 : Int32)) dX4_totalByAnswers_2 (by decide) rfl ?_
  refine lm_istore_n C (lv' := [(0, .ref (a 0)), (1, .int (0 : Int32)), (2, .int (0 : Int32))]) dX4_totalByAnswers_3 rfl (by decide) rfl [1, 2, 0] rfl rfl ?_
  exact loop_4 1000 σ (0 : Int32) (0 : Int32) hF
def F_X4_totalByRows_L17 : Nat → Hp → Int32 → Int32 → Int32 → Option (Int32)
  | 0, _, _, _, _ => none
  | n + 1, σx, x1, x2, x3 =>
    lm_bd (F_X5_size (lm_sh 4 σx)) fun r3 =>
    lm_br (r3 ≤ x3)
     (some (x1))
     (lm_bd (F_X5_key (lm_sh 4 σx) x3) fun r5 =>
     lm_bd (F_X5_key (lm_sh 1 σx) x2) fun r6 =>
     lm_br (¬ r5 = r6)
      (F_X4_totalByRows_L17 n σx x1 x2 (x3 + (1 : Int32)))
      (lm_bd (F_X5_value (lm_sh 4 σx) x3) fun r8 =>
      lm_bd (F_X4_isInBand σx r8) fun r9 =>
      lm_br (r9 = 0)
       (F_X4_totalByRows_L17 n σx x1 x2 (x3 + (1 : Int32)))
       (lm_bd (F_X5_value (lm_sh 1 σx) x2) fun r11 =>
       lm_bd (F_X5_value (lm_sh 4 σx) x3) fun r12 =>
       F_X4_totalByRows_L17 n σx (x1 + (r11 * r12)) x2 (x3 + (1 : Int32)))))
def F_X4_totalByRows_L4 : Nat → Hp → Int32 → Int32 → Option Int32
  | 0, _, _, _ => none
  | n + 1, σx, x1, x2 =>
    lm_bd (F_X5_size (lm_sh 1 σx)) fun r1 =>
    lm_br (r1 ≤ x2)
     (some x1)
     (lm_bd (F_X4_totalByRows_L17 1000 σx x1 x2 (0 : Int32)) fun y13 =>
     F_X4_totalByRows_L4 n σx y13 (x2 + (1 : Int32)))
def F_X4_totalByRows (σ : Hp)  : Option Int32 :=
  F_X4_totalByRows_L4 1000 σ (0 : Int32) (0 : Int32)
theorem in4_X4_totalByRows : ∀ w ∈ u_ws RX4 TX4 8, w ∈ wsX4_totalByRows := by decide +kernel
theorem fl12_X4_totalByRows : Cond.fieldLink RX4 12 "LoopMemo$State" "outer" "LLoopMemo$Table;" ∈ wsX4_totalByRows := by decide +kernel
theorem fl18_X4_totalByRows : Cond.fieldLink RX4 18 "LoopMemo$State" "inner" "LLoopMemo$Table;" ∈ wsX4_totalByRows := by decide +kernel
set_option maxRecDepth 100000 in
set_option maxHeartbeats 4000000 in
theorem m_X4_totalByRows (D : va_G) (z zo : ClassId) (l : Launch) (a : Nat → Nat) (σ : Hp)  (r : Int32)  (hF : F_X4_totalByRows σ  = some r) : lm_CR D z zo l yX4_totalByRows wsX4_totalByRows 1 21 [.ref (a 0)] (stW z a σ) (some (.int r)) := by
  refine lm_CR.of (by decide) rfl (Nat.le_of_ble_eq_true rfl) (own := RX4) rfl ?_
  intro p e s m_ args below meth c C hr hk
  have loop_17 : ∀ (n : Nat) (σx : Hp) (x1 : Int32) (x2 : Int32) (x3 : Int32) (o0 : Int32), F_X4_totalByRows_L17 n σx x1 x2 x3 = some o0 → lm_St p l e ({ frames := 1, cells := 0, slots := 0, locals := 21 }) s m_ args below meth c D (fun _ => False) 4 0 0 (lm_EndR below (some (.int r)) args s) true (stW z a σx) 88 [(0, .ref (a 0)), (1, .int o0), (2, .int x2)] [] → lm_St p l e ({ frames := 1, cells := 0, slots := 0, locals := 21 }) s m_ args below meth c D (fun _ => False) 4 0 0 (lm_EndR below (some (.int r)) args s) true (stW z a σx) 17 [(0, .ref (a 0)), (1, .int x1), (2, .int x2), (3, .int x3)] [] := by
    intro n
    induction n with
    | zero => intro σx x1 x2 x3 o0 hF hK; cases (show (none : Option _) = some _ from hF)
    | succ n ih =>
      intro σx x1 x2 x3 o0 hF hK
      rw [F_X4_totalByRows_L17] at hF
      refine lm_iload_n C dX4_totalByRows_17 rfl 3 rfl rfl ?_
      refine lm_aload_n C dX4_totalByRows_18 rfl 0 rfl rfl ?_
      refine lm_getf C (T := TX4) (N := 8) (v := .ref (a 4)) in4_X4_totalByRows 0 rfl rfl 1 (by decide) fl18_X4_totalByRows rfl rfl dX4_totalByRows_19 rfl ?_
      obtain ⟨r3, qr3, hF⟩ := lm_bde hF
      refine lm_callVR C (n := 0) (ci := 5) (m_X5_size D z zo l (lm_sh 4 a) (lm_sh 4 σx)  r3 qr3) gX4_totalByRows_X5_size rfl (by decide +kernel) ⟨Nat.le_of_ble_eq_true rfl, Nat.le_of_ble_eq_true rfl⟩ ⟨Nat.le_of_ble_eq_true rfl, Nat.le_of_ble_eq_true rfl⟩ 4 rfl rfl (st_s4 z a σx) rfl rfl (Nat.le_of_ble_eq_true rfl) dX4_totalByRows_22 (st' := [.int r3, .int x3]) rfl rfl ?_
      refine lm_icmp_ge C (tgt := 88) dX4_totalByRows_25 (by decide) rfl (fun c4 => ?_) (fun c4 => ?_)
      · have hF := lm_brt hF c4
        refine lm_lvsub (lv' := [(0, .ref (a 0)), (1, .int x1), (2, .int x2)]) [0, 1, 2] rfl ?_
        cases hF
        exact hK
      · have hF := lm_brf hF c4
        refine lm_aload_n C dX4_totalByRows_28 rfl 0 rfl rfl ?_
        refine lm_getf C (T := TX4) (N := 8) (v := .ref (a 4)) in4_X4_totalByRows 0 rfl rfl 1 (by decide) fl18_X4_totalByRows rfl rfl dX4_totalByRows_29 rfl ?_
        refine lm_iload_n C dX4_totalByRows_32 rfl 3 rfl rfl ?_
        obtain ⟨r5, qr5, hF⟩ := lm_bde hF
        refine lm_callVR C (n := 1) (ci := 5) (m_X5_key D z zo l (lm_sh 4 a) (lm_sh 4 σx) x3 r5 qr5) gX4_totalByRows_X5_key rfl (by decide +kernel) ⟨Nat.le_of_ble_eq_true rfl, Nat.le_of_ble_eq_true rfl⟩ ⟨Nat.le_of_ble_eq_true rfl, Nat.le_of_ble_eq_true rfl⟩ 4 rfl rfl (st_s4 z a σx) rfl rfl (Nat.le_of_ble_eq_true rfl) dX4_totalByRows_33 (st' := [.int r5]) rfl rfl ?_
        refine lm_aload_n C dX4_totalByRows_36 rfl 0 rfl rfl ?_
        refine lm_getf C (T := TX4) (N := 8) (v := .ref (a 1)) in4_X4_totalByRows 0 rfl rfl 0 (by decide) fl12_X4_totalByRows rfl rfl dX4_totalByRows_37 rfl ?_
        refine lm_iload_n C dX4_totalByRows_40 rfl 2 rfl rfl ?_
        obtain ⟨r6, qr6, hF⟩ := lm_bde hF
        refine lm_callVR C (n := 1) (ci := 5) (m_X5_key D z zo l (lm_sh 1 a) (lm_sh 1 σx) x2 r6 qr6) gX4_totalByRows_X5_key rfl (by decide +kernel) ⟨Nat.le_of_ble_eq_true rfl, Nat.le_of_ble_eq_true rfl⟩ ⟨Nat.le_of_ble_eq_true rfl, Nat.le_of_ble_eq_true rfl⟩ 1 rfl rfl (st_s1 z a σx) rfl rfl (Nat.le_of_ble_eq_true rfl) dX4_totalByRows_41 (st' := [.int r6, .int r5]) rfl rfl ?_
        refine lm_icmp_ne C (tgt := 82) dX4_totalByRows_44 (by decide) rfl (fun c7 => ?_) (fun c7 => ?_)
        · have hF := lm_brt hF c7
          refine lm_iinc C (lv' := [(0, .ref (a 0)), (1, .int x1), (2, .int x2), (3, .int (x3 + (1 : Int32)))]) (x3 + (1 : Int32)) dX4_totalByRows_82 3 rfl rfl (by decide) rfl [1, 2, 3, 0] rfl rfl ?_
          refine lm_goto C (tgt := 17) dX4_totalByRows_85 (by decide) ?_
          exact ih σx x1 x2 (x3 + (1 : Int32)) _ hF hK
        · have hF := lm_brf hF c7
          refine lm_aload_n C dX4_totalByRows_47 rfl 0 rfl rfl ?_
          refine lm_aload_n C dX4_totalByRows_48 rfl 0 rfl rfl ?_
          refine lm_getf C (T := TX4) (N := 8) (v := .ref (a 4)) in4_X4_totalByRows 0 rfl rfl 1 (by decide) fl18_X4_totalByRows rfl rfl dX4_totalByRows_49 rfl ?_
          refine lm_iload_n C dX4_totalByRows_52 rfl 3 rfl rfl ?_
          obtain ⟨r8, qr8, hF⟩ := lm_bde hF
          refine lm_callVR C (n := 1) (ci := 5) (m_X5_value D z zo l (lm_sh 4 a) (lm_sh 4 σx) x3 r8 qr8) gX4_totalByRows_X5_value rfl (by decide +kernel) ⟨Nat.le_of_ble_eq_true rfl, Nat.le_of_ble_eq_true rfl⟩ ⟨Nat.le_of_ble_eq_true rfl, Nat.le_of_ble_eq_true rfl⟩ 4 rfl rfl (st_s4 z a σx) rfl rfl (Nat.le_of_ble_eq_true rfl) dX4_totalByRows_53 (st' := [.int r8, .ref (a 0)]) rfl rfl ?_
          obtain ⟨r9, qr9, hF⟩ := lm_bde hF
          refine lm_callVR C (n := 1) (ci := 4) (m_X4_isInBand D z zo l a σx r8 r9 qr9) gX4_totalByRows_X4_isInBand rfl (by decide +kernel) ⟨Nat.le_of_ble_eq_true rfl, Nat.le_of_ble_eq_true rfl⟩ ⟨Nat.le_of_ble_eq_true rfl, Nat.le_of_ble_eq_true rfl⟩ 0 rfl rfl (fun _ h => h) rfl rfl (Nat.le_of_ble_eq_true rfl) dX4_totalByRows_56 (st' := [.int r9]) rfl rfl ?_
          refine lm_if_eq C (tgt := 82) dX4_totalByRows_59 (by decide) rfl (fun c10 => ?_) (fun c10 => ?_)
          · have hF := lm_brt hF c10
            refine lm_iinc C (lv' := [(0, .ref (a 0)), (1, .int x1), (2, .int x2), (3, .int (x3 + (1 : Int32)))]) (x3 + (1 : Int32)) dX4_totalByRows_82 3 rfl rfl (by decide) rfl [1, 2, 3, 0] rfl rfl ?_
            refine lm_goto C (tgt := 17) dX4_totalByRows_85 (by decide) ?_
            exact ih σx x1 x2 (x3 + (1 : Int32)) _ hF hK
          · have hF := lm_brf hF c10
            refine lm_iload_n C dX4_totalByRows_62 rfl 1 rfl rfl ?_
            refine lm_aload_n C dX4_totalByRows_63 rfl 0 rfl rfl ?_
            refine lm_getf C (T := TX4) (N := 8) (v := .ref (a 1)) in4_X4_totalByRows 0 rfl rfl 0 (by decide) fl12_X4_totalByRows rfl rfl dX4_totalByRows_64 rfl ?_
            refine lm_iload_n C dX4_totalByRows_67 rfl 2 rfl rfl ?_
            obtain ⟨r11, qr11, hF⟩ := lm_bde hF
            refine lm_callVR C (n := 1) (ci := 5) (m_X5_value D z zo l (lm_sh 1 a) (lm_sh 1 σx) x2 r11 qr11) gX4_totalByRows_X5_value rfl (by decide +kernel) ⟨Nat.le_of_ble_eq_true rfl, Nat.le_of_ble_eq_true rfl⟩ ⟨Nat.le_of_ble_eq_true rfl, Nat.le_of_ble_eq_true rfl⟩ 1 rfl rfl (st_s1 z a σx) rfl rfl (Nat.le_of_ble_eq_true rfl) dX4_totalByRows_68 (st' := [.int r11, .int x1]) rfl rfl ?_
            refine lm_aload_n C dX4_totalByRows_71 rfl 0 rfl rfl ?_
            refine lm_getf C (T := TX4) (N := 8) (v := .ref (a 4)) in4_X4_totalByRows 0 rfl rfl 1 (by decide) fl18_X4_totalByRows rfl rfl dX4_totalByRows_72 rfl ?_
            refine lm_iload_n C dX4_totalByRows_75 rfl 3 rfl rfl ?_
            obtain ⟨r12, qr12, hF⟩ := lm_bde hF
            refine lm_callVR C (n := 1) (ci := 5) (m_X5_value D z zo l (lm_sh 4 a) (lm_sh 4 σx) x3 r12 qr12) gX4_totalByRows_X5_value rfl (by decide +kernel) ⟨Nat.le_of_ble_eq_true rfl, Nat.le_of_ble_eq_true rfl⟩ ⟨Nat.le_of_ble_eq_true rfl, Nat.le_of_ble_eq_true rfl⟩ 4 rfl rfl (st_s4 z a σx) rfl rfl (Nat.le_of_ble_eq_true rfl) dX4_totalByRows_76 (st' := [.int r12, .int r11, .int x1]) rfl rfl ?_
            refine lm_imul C dX4_totalByRows_79 rfl rfl ?_
            refine lm_iadd C dX4_totalByRows_80 rfl rfl ?_
            refine lm_istore_n C (lv' := [(0, .ref (a 0)), (1, .int (x1 + (r11 * r12))), (2, .int x2), (3, .int x3)]) dX4_totalByRows_81 rfl (by decide) rfl [1, 0, 2, 3] rfl rfl ?_
            refine lm_iinc C (lv' := [(0, .ref (a 0)), (1, .int (x1 + (r11 * r12))), (2, .int x2), (3, .int (x3 + (1 : Int32)))]) (x3 + (1 : Int32)) dX4_totalByRows_82 3 rfl rfl (by decide) rfl [1, 2, 3, 0] rfl rfl ?_
            refine lm_goto C (tgt := 17) dX4_totalByRows_85 (by decide) ?_
            exact ih σx (x1 + (r11 * r12)) x2 (x3 + (1 : Int32)) _ hF hK
  have loop_4 : ∀ (n : Nat) (σx : Hp) (x1 : Int32) (x2 : Int32), F_X4_totalByRows_L4 n σx x1 x2 = some r → lm_St p l e ({ frames := 1, cells := 0, slots := 0, locals := 21 }) s m_ args below meth c D (fun _ => False) 4 0 0 (lm_EndR below (some (.int r)) args s) true (stW z a σx) 4 [(0, .ref (a 0)), (1, .int x1), (2, .int x2)] [] := by
    intro n
    induction n with
    | zero => intro σx x1 x2 hF; cases (show (none : Option _) = some _ from hF)
    | succ n ih =>
      intro σx x1 x2 hF
      rw [F_X4_totalByRows_L4] at hF
      refine lm_iload_n C dX4_totalByRows_4 rfl 2 rfl rfl ?_
      refine lm_aload_n C dX4_totalByRows_5 rfl 0 rfl rfl ?_
      refine lm_getf C (T := TX4) (N := 8) (v := .ref (a 1)) in4_X4_totalByRows 0 rfl rfl 0 (by decide) fl12_X4_totalByRows rfl rfl dX4_totalByRows_6 rfl ?_
      obtain ⟨r1, qr1, hF⟩ := lm_bde hF
      refine lm_callVR C (n := 0) (ci := 5) (m_X5_size D z zo l (lm_sh 1 a) (lm_sh 1 σx)  r1 qr1) gX4_totalByRows_X5_size rfl (by decide +kernel) ⟨Nat.le_of_ble_eq_true rfl, Nat.le_of_ble_eq_true rfl⟩ ⟨Nat.le_of_ble_eq_true rfl, Nat.le_of_ble_eq_true rfl⟩ 1 rfl rfl (st_s1 z a σx) rfl rfl (Nat.le_of_ble_eq_true rfl) dX4_totalByRows_9 (st' := [.int r1, .int x2]) rfl rfl ?_
      refine lm_icmp_ge C (tgt := 94) dX4_totalByRows_12 (by decide) rfl (fun c2 => ?_) (fun c2 => ?_)
      · have hF := lm_brt hF c2
        refine lm_iload_n C dX4_totalByRows_94 rfl 1 rfl rfl ?_
        cases hF
        exact lm_iretR C hr hk rfl dX4_totalByRows_95
      · have hF := lm_brf hF c2
        refine lm_iconst C (v := (0 : Int32)) dX4_totalByRows_15 (by decide) rfl ?_
        refine lm_istore_n C (lv' := [(0, .ref (a 0)), (1, .int x1), (2, .int x2), (3, .int (0 : Int32))]) dX4_totalByRows_16 rfl (by decide) rfl [1, 2, 3, 0] rfl rfl ?_
        obtain ⟨y13, hqy13, hF⟩ := lm_bde hF
        refine loop_17 1000 σx x1 x2 (0 : Int32) y13 hqy13 ?_
        refine lm_iinc C (lv' := [(0, .ref (a 0)), (1, .int y13), (2, .int (x2 + (1 : Int32)))]) (x2 + (1 : Int32)) dX4_totalByRows_88 2 rfl rfl (by decide) rfl [1, 2, 0] rfl rfl ?_
        refine lm_goto C (tgt := 4) dX4_totalByRows_91 (by decide) ?_
        exact ih σx y13 (x2 + (1 : Int32)) hF
  show lm_St p l e ({ frames := 1, cells := 0, slots := 0, locals := 21 }) s m_ args below meth c D (fun _ => False) 4 0 0 (lm_EndR below (some (.int r)) args s) true (stW z a σ) 0 [(0, .ref (a 0))] []
  rw [F_X4_totalByRows] at hF
  refine lm_iconst C (v := (0 : Int32)) dX4_totalByRows_0 (by decide) rfl ?_
  refine lm_istore_n C (lv' := [(0, .ref (a 0)), (1, .int (0 : Int32))]) dX4_totalByRows_1 rfl (by decide) rfl [1, 0] rfl rfl ?_
  refine lm_iconst C (v := (0 : Int32)) dX4_totalByRows_2 (by decide) rfl ?_
  refine lm_istore_n C (lv' := [(0, .ref (a 0)), (1, .int (0 : Int32)), (2, .int (0 : Int32))]) dX4_totalByRows_3 rfl (by decide) rfl [1, 2, 0] rfl rfl ?_
  exact loop_4 1000 σ (0 : Int32) (0 : Int32) hF
