def F_X7_again (σ : Hp)  : Option (Int32 × (Hp)) :=
  lm_bd (F_X7_changes σ) fun σ1 =>
  lm_lt (lm_u σ1 1 7 (0 : Int32)) fun σ2 =>
  lm_lt (lm_u σ2 1 8 (0 : Int32)) fun σ3 =>
  some ((σ1 1 8), σ3)
theorem in7_X7_again : ∀ w ∈ u_ws RX7 TX7 14, w ∈ wsX7_again := by decide +kernel
theorem fl7_X7_again : Cond.fieldLink RX7 7 "LoopMemoModel" "s" "[I" ∈ wsX7_again := by decide +kernel
set_option maxRecDepth 100000 in
set_option maxHeartbeats 4000000 in
theorem m_X7_again (D : va_G) (z zo : ClassId) (l : Launch) (a : Nat → Nat) (σ : Hp)  (r : Int32) (σ' : Hp) (hF : F_X7_again σ  = some (r, σ')) : lm_C D z zo l yX7_again wsX7_again 1 21 [.ref (a 0)] (mdW z a σ) (some (.int r)) (mdW z a σ') := by
  refine lm_C.of (by decide) rfl (Nat.le_of_ble_eq_true rfl) (own := RX7) rfl ?_
  intro p e s m_ args below meth c C hr hk hA
  show lm_St p l e ({ frames := 1, cells := 0, slots := 0, locals := 21 }) s m_ args below meth c D (va_A (mdW z a σ) s.heap.size) 2 0 0 (lm_End below D (some (.int r)) (mdW z a σ) (mdW z a σ') args s) false (mdW z a σ) 0 [(0, .ref (a 0))] []
  rw [F_X7_again] at hF
  refine lm_aload_n C dX7_again_0 rfl 0 rfl rfl ?_
  obtain ⟨σ1, qσ1, hF⟩ := lm_bde hF
  refine lm_callV C (n := 0) (ci := 7) (w' := (mdW z a σ1)) hA (m_X7_changes D z zo l a σ  σ1 qσ1) gX7_again_X7_changes rfl (by decide +kernel) ⟨Nat.le_of_ble_eq_true rfl, Nat.le_of_ble_eq_true rfl⟩ ⟨Nat.le_of_ble_eq_true rfl, Nat.le_of_ble_eq_true rfl⟩ 0 rfl rfl lm_pr lm_pr' rfl rfl (Nat.le_of_ble_eq_true rfl) dX7_again_1 (st' := []) rfl rfl ?_
  refine lm_aload_n C dX7_again_4 rfl 0 rfl rfl ?_
  refine lm_getf C (T := TX7) (N := 14) (v := .ref (a 1)) in7_X7_again 0 rfl rfl 0 (by decide) fl7_X7_again rfl rfl dX7_again_5 rfl ?_
  refine lm_bipush C (v := (8 : Int32)) dX7_again_8 (by decide) rfl ?_
  refine lm_iald C (v := (σ1 1 8)) 1 rfl (by unfold vp_in; decide) rfl dX7_again_10 rfl ?_
  refine lm_istore_n C (lv' := [(0, .ref (a 0)), (1, .int (σ1 1 8))]) dX7_again_11 rfl (by decide) rfl [1, 0] rfl rfl ?_
  refine lm_aload_n C dX7_again_12 rfl 0 rfl rfl ?_
  refine lm_getf C (T := TX7) (N := 14) (v := .ref (a 1)) in7_X7_again 0 rfl rfl 0 (by decide) fl7_X7_again rfl rfl dX7_again_13 rfl ?_
  refine lm_bipush C (v := (7 : Int32)) dX7_again_16 (by decide) rfl ?_
  refine lm_iconst C (v := (0 : Int32)) dX7_again_18 (by decide) rfl ?_
  obtain ⟨σ2, eσ2, hF⟩ := lm_lte hF
  refine lm_iast C (w' := (mdW z a σ2)) 1 rfl (by unfold vp_in; decide) dX7_again_19 (by rw [← eσ2]; rfl) rfl ?_
  refine lm_aload_n C dX7_again_20 rfl 0 rfl rfl ?_
  refine lm_getf C (T := TX7) (N := 14) (v := .ref (a 1)) in7_X7_again 0 rfl rfl 0 (by decide) fl7_X7_again rfl rfl dX7_again_21 rfl ?_
  refine lm_bipush C (v := (8 : Int32)) dX7_again_24 (by decide) rfl ?_
  refine lm_iconst C (v := (0 : Int32)) dX7_again_26 (by decide) rfl ?_
  obtain ⟨σ3, eσ3, hF⟩ := lm_lte hF
  refine lm_iast C (w' := (mdW z a σ3)) 1 rfl (by unfold vp_in; decide) dX7_again_27 (by rw [← eσ3]; rfl) rfl ?_
  refine lm_iload_n C dX7_again_28 rfl 1 rfl rfl ?_
  cases hF
  exact lm_iret C hr hk rfl rfl dX7_again_29
def F_X7_forget (σ : Hp)  : Option (Int32 × (Hp)) :=
  lm_bd (F_X7_changes σ) fun σ1 =>
  lm_b2 (F_X7_throwsAll σ1) fun r3 σ2 =>
  some (r3, σ2)
set_option maxRecDepth 100000 in
set_option maxHeartbeats 4000000 in
theorem m_X7_forget (D : va_G) (z zo : ClassId) (l : Launch) (a : Nat → Nat) (σ : Hp)  (r : Int32) (σ' : Hp) (hF : F_X7_forget σ  = some (r, σ')) : lm_C D z zo l yX7_forget wsX7_forget 3 64 [.ref (a 0)] (mdW z a σ) (some (.int r)) (mdW z a σ') := by
  refine lm_C.of (by decide) rfl (Nat.le_of_ble_eq_true rfl) (own := RX7) rfl ?_
  intro p e s m_ args below meth c C hr hk hA
  show lm_St p l e ({ frames := 3, cells := 0, slots := 0, locals := 64 }) s m_ args below meth c D (va_A (mdW z a σ) s.heap.size) 1 0 0 (lm_End below D (some (.int r)) (mdW z a σ) (mdW z a σ') args s) false (mdW z a σ) 0 [(0, .ref (a 0))] []
  rw [F_X7_forget] at hF
  refine lm_aload_n C dX7_forget_0 rfl 0 rfl rfl ?_
  obtain ⟨σ1, qσ1, hF⟩ := lm_bde hF
  refine lm_callV C (n := 0) (ci := 7) (w' := (mdW z a σ1)) hA (m_X7_changes D z zo l a σ  σ1 qσ1) gX7_forget_X7_changes rfl (by decide +kernel) ⟨Nat.le_of_ble_eq_true rfl, Nat.le_of_ble_eq_true rfl⟩ ⟨Nat.le_of_ble_eq_true rfl, Nat.le_of_ble_eq_true rfl⟩ 0 rfl rfl lm_pr lm_pr' rfl rfl (Nat.le_of_ble_eq_true rfl) dX7_forget_1 (st' := []) rfl rfl ?_
  refine lm_aload_n C dX7_forget_4 rfl 0 rfl rfl ?_
  obtain ⟨r3, σ2, qσ2, hF⟩ := lm_b2e hF
  refine lm_callV C (n := 0) (ci := 7) (w' := (mdW z a σ2)) hA (m_X7_throwsAll D z zo l a σ1  r3 σ2 qσ2) gX7_forget_X7_throwsAll rfl (by decide +kernel) ⟨Nat.le_of_ble_eq_true rfl, Nat.le_of_ble_eq_true rfl⟩ ⟨Nat.le_of_ble_eq_true rfl, Nat.le_of_ble_eq_true rfl⟩ 0 rfl rfl lm_pr lm_pr' rfl rfl (Nat.le_of_ble_eq_true rfl) dX7_forget_5 (st' := [.int r3]) rfl rfl ?_
  cases hF
  exact lm_iret C hr hk rfl rfl dX7_forget_8
def F_X7_sets (σ : Hp) (x1 x2 : Int32) : Option (Int32 × (Hp)) :=
  lm_gi x1 127
  (lm_lt (lm_u σ 1 (x1.toNatClampNeg) x2) fun σ1 =>
  lm_br (¬ x1 = 0)
   (lm_b2 (F_X7_throwsAll σ1) fun r4 σ3 =>
   some (r4, σ3))
   (lm_b2 (F_X7_makesRoom σ1 (-4 : Int32)) fun r6 σ5 =>
   some (r6, σ5)))
theorem in7_X7_sets : ∀ w ∈ u_ws RX7 TX7 14, w ∈ wsX7_sets := by decide +kernel
theorem fl7_X7_sets : Cond.fieldLink RX7 7 "LoopMemoModel" "s" "[I" ∈ wsX7_sets := by decide +kernel
set_option maxRecDepth 100000 in
set_option maxHeartbeats 4000000 in
theorem m_X7_sets (D : va_G) (z zo : ClassId) (l : Launch) (a : Nat → Nat) (σ : Hp) (x1 x2 : Int32) (r : Int32) (σ' : Hp) (hF : F_X7_sets σ x1 x2 = some (r, σ')) : lm_C D z zo l yX7_sets wsX7_sets 6 133 [.ref (a 0), .int x1, .int x2] (mdW z a σ) (some (.int r)) (mdW z a σ') := by
  refine lm_C.of (by decide) rfl (Nat.le_of_ble_eq_true rfl) (own := RX7) rfl ?_
  intro p e s m_ args below meth c C hr hk hA
  show lm_St p l e ({ frames := 6, cells := 0, slots := 0, locals := 133 }) s m_ args below meth c D (va_A (mdW z a σ) s.heap.size) 3 0 0 (lm_End below D (some (.int r)) (mdW z a σ) (mdW z a σ') args s) false (mdW z a σ) 0 [(0, .ref (a 0)), (1, .int x1), (2, .int x2)] []
  rw [F_X7_sets] at hF
  refine lm_aload_n C dX7_sets_0 rfl 0 rfl rfl ?_
  refine lm_getf C (T := TX7) (N := 14) (v := .ref (a 1)) in7_X7_sets 0 rfl rfl 0 (by decide) fl7_X7_sets rfl rfl dX7_sets_1 rfl ?_
  refine lm_iload_n C dX7_sets_4 rfl 1 rfl rfl ?_
  refine lm_iload_n C dX7_sets_5 rfl 2 rfl rfl ?_
  obtain ⟨b7, hF⟩ := lm_gie hF
  obtain ⟨σ1, eσ1, hF⟩ := lm_lte hF
  refine lm_iast C (w' := (mdW z a σ1)) 1 rfl b7 dX7_sets_6 (by rw [← eσ1]; rfl) rfl ?_
  refine lm_iload_n C dX7_sets_7 rfl 1 rfl rfl ?_
  refine lm_if_ne C (tgt := 20) dX7_sets_8 (by decide) rfl (fun c2 => ?_) (fun c2 => ?_)
  · have hF := lm_brt hF c2
    refine lm_aload_n C dX7_sets_20 rfl 0 rfl rfl ?_
    obtain ⟨r4, σ3, qσ3, hF⟩ := lm_b2e hF
    refine lm_callV C (n := 0) (ci := 7) (w' := (mdW z a σ3)) hA (m_X7_throwsAll D z zo l a σ1  r4 σ3 qσ3) gX7_sets_X7_throwsAll rfl (by decide +kernel) ⟨Nat.le_of_ble_eq_true rfl, Nat.le_of_ble_eq_true rfl⟩ ⟨Nat.le_of_ble_eq_true rfl, Nat.le_of_ble_eq_true rfl⟩ 0 rfl rfl lm_pr lm_pr' rfl rfl (Nat.le_of_ble_eq_true rfl) dX7_sets_21 (st' := [.int r4]) rfl rfl ?_
    cases hF
    exact lm_iret C hr hk rfl rfl dX7_sets_24
  · have hF := lm_brf hF c2
    refine lm_aload_n C dX7_sets_11 rfl 0 rfl rfl ?_
    refine lm_bipush C (v := (-4 : Int32)) dX7_sets_12 (by decide) rfl ?_
    obtain ⟨r6, σ5, qσ5, hF⟩ := lm_b2e hF
    refine lm_callV C (n := 1) (ci := 7) (w' := (mdW z a σ5)) hA (m_X7_makesRoom D z zo l a σ1 (-4 : Int32) r6 σ5 qσ5) gX7_sets_X7_makesRoom rfl (by decide +kernel) ⟨Nat.le_of_ble_eq_true rfl, Nat.le_of_ble_eq_true rfl⟩ ⟨Nat.le_of_ble_eq_true rfl, Nat.le_of_ble_eq_true rfl⟩ 0 rfl rfl lm_pr lm_pr' rfl rfl (Nat.le_of_ble_eq_true rfl) dX7_sets_14 (st' := [.int r6]) rfl rfl ?_
    refine lm_goto C (tgt := 24) dX7_sets_17 (by decide) ?_
    cases hF
    exact lm_iret C hr hk rfl rfl dX7_sets_24
def F_X7_set (σ : Hp) (x1 x2 : Int32) : Option (Int32 × (Hp)) :=
  lm_bd (F_X7_in x1 (0 : Int32) (4 : Int32)) fun r1 =>
  lm_br (r1 = 0)
   (some ((-1 : Int32), σ))
   (lm_br (¬ x1 = 0)
    (lm_br ((3 : Int32) ≤ x1)
     (lm_bd (F_X7_in x2 (0 : Int32) (99 : Int32)) fun r5 =>
     lm_br (¬ r5 = 0)
      (lm_bd (F_X7_changes σ) fun σ7 =>
      lm_b2 (F_X7_sets σ7 x1 x2) fun r9 σ8 =>
      some (r9, σ8))
      (some ((-1 : Int32), σ)))
     (lm_bd (F_X7_in x2 (0 : Int32) (2 : Int32)) fun r10 =>
     lm_br (¬ r10 = 0)
      (lm_bd (F_X7_changes σ) fun σ12 =>
      lm_b2 (F_X7_sets σ12 x1 x2) fun r14 σ13 =>
      some (r14, σ13))
      (some ((-1 : Int32), σ))))
    (lm_bd (F_X7_in x2 (0 : Int32) (60 : Int32)) fun r15 =>
    lm_br (¬ r15 = 0)
     (lm_bd (F_X7_changes σ) fun σ17 =>
     lm_b2 (F_X7_sets σ17 x1 x2) fun r19 σ18 =>
     some (r19, σ18))
     (some ((-1 : Int32), σ))))
set_option maxRecDepth 100000 in
set_option maxHeartbeats 4000000 in
theorem m_X7_set (D : va_G) (z zo : ClassId) (l : Launch) (a : Nat → Nat) (σ : Hp) (x1 x2 : Int32) (r : Int32) (σ' : Hp) (hF : F_X7_set σ x1 x2 = some (r, σ')) : lm_C D z zo l yX7_set wsX7_set 7 155 [.ref (a 0), .int x1, .int x2] (mdW z a σ) (some (.int r)) (mdW z a σ') := by
  refine lm_C.of (by decide) rfl (Nat.le_of_ble_eq_true rfl) (own := RX7) rfl ?_
  intro p e s m_ args below meth c C hr hk hA
  show lm_St p l e ({ frames := 7, cells := 0, slots := 0, locals := 155 }) s m_ args below meth c D (va_A (mdW z a σ) s.heap.size) 3 0 0 (lm_End below D (some (.int r)) (mdW z a σ) (mdW z a σ') args s) false (mdW z a σ) 0 [(0, .ref (a 0)), (1, .int x1), (2, .int x2)] []
  rw [F_X7_set] at hF
  refine lm_iload_n C dX7_set_0 rfl 1 rfl rfl ?_
  refine lm_iconst C (v := (0 : Int32)) dX7_set_1 (by decide) rfl ?_
  refine lm_iconst C (v := (4 : Int32)) dX7_set_2 (by decide) rfl ?_
  obtain ⟨r1, qr1, hF⟩ := lm_bde hF
  refine lm_callSR C (n := 3) (m_X7_in D z zo l   x1 (0 : Int32) (4 : Int32) r1 qr1) gX7_set_X7_in rfl (by decide +kernel) ⟨Nat.le_of_ble_eq_true rfl, Nat.le_of_ble_eq_true rfl⟩ ⟨Nat.le_of_ble_eq_true rfl, Nat.le_of_ble_eq_true rfl⟩ (fun _ h => absurd h List.not_mem_nil) rfl rfl (Nat.le_of_ble_eq_true rfl) dX7_set_3 (st' := [.int r1]) rfl rfl ?_
  refine lm_if_eq C (tgt := 37) dX7_set_6 (by decide) rfl (fun c2 => ?_) (fun c2 => ?_)
  · have hF := lm_brt hF c2
    refine lm_iconst C (v := (-1 : Int32)) dX7_set_37 (by decide) rfl ?_
    cases hF
    exact lm_iret C hr hk rfl rfl dX7_set_38
  · have hF := lm_brf hF c2
    refine lm_iload_n C dX7_set_9 rfl 2 rfl rfl ?_
    refine lm_iconst C (v := (0 : Int32)) dX7_set_10 (by decide) rfl ?_
    refine lm_iload_n C dX7_set_11 rfl 1 rfl rfl ?_
    refine lm_if_ne C (tgt := 20) dX7_set_12 (by decide) rfl (fun c3 => ?_) (fun c3 => ?_)
    · have hF := lm_brt hF c3
      refine lm_iload_n C dX7_set_20 rfl 1 rfl rfl ?_
      refine lm_iconst C (v := (3 : Int32)) dX7_set_21 (by decide) rfl ?_
      refine lm_icmp_ge C (tgt := 29) dX7_set_22 (by decide) rfl (fun c4 => ?_) (fun c4 => ?_)
      · have hF := lm_brt hF c4
        refine lm_bipush C (v := (99 : Int32)) dX7_set_29 (by decide) rfl ?_
        obtain ⟨r5, qr5, hF⟩ := lm_bde hF
        refine lm_callSR C (n := 3) (m_X7_in D z zo l   x2 (0 : Int32) (99 : Int32) r5 qr5) gX7_set_X7_in rfl (by decide +kernel) ⟨Nat.le_of_ble_eq_true rfl, Nat.le_of_ble_eq_true rfl⟩ ⟨Nat.le_of_ble_eq_true rfl, Nat.le_of_ble_eq_true rfl⟩ (fun _ h => absurd h List.not_mem_nil) rfl rfl (Nat.le_of_ble_eq_true rfl) dX7_set_31 (st' := [.int r5]) rfl rfl ?_
        refine lm_if_ne C (tgt := 39) dX7_set_34 (by decide) rfl (fun c6 => ?_) (fun c6 => ?_)
        · have hF := lm_brt hF c6
          refine lm_aload_n C dX7_set_39 rfl 0 rfl rfl ?_
          obtain ⟨σ7, qσ7, hF⟩ := lm_bde hF
          refine lm_callV C (n := 0) (ci := 7) (w' := (mdW z a σ7)) hA (m_X7_changes D z zo l a σ  σ7 qσ7) gX7_set_X7_changes rfl (by decide +kernel) ⟨Nat.le_of_ble_eq_true rfl, Nat.le_of_ble_eq_true rfl⟩ ⟨Nat.le_of_ble_eq_true rfl, Nat.le_of_ble_eq_true rfl⟩ 0 rfl rfl lm_pr lm_pr' rfl rfl (Nat.le_of_ble_eq_true rfl) dX7_set_40 (st' := []) rfl rfl ?_
          refine lm_aload_n C dX7_set_43 rfl 0 rfl rfl ?_
          refine lm_iload_n C dX7_set_44 rfl 1 rfl rfl ?_
          refine lm_iload_n C dX7_set_45 rfl 2 rfl rfl ?_
          obtain ⟨r9, σ8, qσ8, hF⟩ := lm_b2e hF
          refine lm_callV C (n := 2) (ci := 7) (w' := (mdW z a σ8)) hA (m_X7_sets D z zo l a σ7 x1 x2 r9 σ8 qσ8) gX7_set_X7_sets rfl (by decide +kernel) ⟨Nat.le_of_ble_eq_true rfl, Nat.le_of_ble_eq_true rfl⟩ ⟨Nat.le_of_ble_eq_true rfl, Nat.le_of_ble_eq_true rfl⟩ 0 rfl rfl lm_pr lm_pr' rfl rfl (Nat.le_of_ble_eq_true rfl) dX7_set_46 (st' := [.int r9]) rfl rfl ?_
          cases hF
          exact lm_iret C hr hk rfl rfl dX7_set_49
        · have hF := lm_brf hF c6
          refine lm_iconst C (v := (-1 : Int32)) dX7_set_37 (by decide) rfl ?_
          cases hF
          exact lm_iret C hr hk rfl rfl dX7_set_38
      · have hF := lm_brf hF c4
        refine lm_iconst C (v := (2 : Int32)) dX7_set_25 (by decide) rfl ?_
        refine lm_goto C (tgt := 31) dX7_set_26 (by decide) ?_
        obtain ⟨r10, qr10, hF⟩ := lm_bde hF
        refine lm_callSR C (n := 3) (m_X7_in D z zo l   x2 (0 : Int32) (2 : Int32) r10 qr10) gX7_set_X7_in rfl (by decide +kernel) ⟨Nat.le_of_ble_eq_true rfl, Nat.le_of_ble_eq_true rfl⟩ ⟨Nat.le_of_ble_eq_true rfl, Nat.le_of_ble_eq_true rfl⟩ (fun _ h => absurd h List.not_mem_nil) rfl rfl (Nat.le_of_ble_eq_true rfl) dX7_set_31 (st' := [.int r10]) rfl rfl ?_
        refine lm_if_ne C (tgt := 39) dX7_set_34 (by decide) rfl (fun c11 => ?_) (fun c11 => ?_)
        · have hF := lm_brt hF c11
          refine lm_aload_n C dX7_set_39 rfl 0 rfl rfl ?_
          obtain ⟨σ12, qσ12, hF⟩ := lm_bde hF
          refine lm_callV C (n := 0) (ci := 7) (w' := (mdW z a σ12)) hA (m_X7_changes D z zo l a σ  σ12 qσ12) gX7_set_X7_changes rfl (by decide +kernel) ⟨Nat.le_of_ble_eq_true rfl, Nat.le_of_ble_eq_true rfl⟩ ⟨Nat.le_of_ble_eq_true rfl, Nat.le_of_ble_eq_true rfl⟩ 0 rfl rfl lm_pr lm_pr' rfl rfl (Nat.le_of_ble_eq_true rfl) dX7_set_40 (st' := []) rfl rfl ?_
          refine lm_aload_n C dX7_set_43 rfl 0 rfl rfl ?_
          refine lm_iload_n C dX7_set_44 rfl 1 rfl rfl ?_
          refine lm_iload_n C dX7_set_45 rfl 2 rfl rfl ?_
          obtain ⟨r14, σ13, qσ13, hF⟩ := lm_b2e hF
          refine lm_callV C (n := 2) (ci := 7) (w' := (mdW z a σ13)) hA (m_X7_sets D z zo l a σ12 x1 x2 r14 σ13 qσ13) gX7_set_X7_sets rfl (by decide +kernel) ⟨Nat.le_of_ble_eq_true rfl, Nat.le_of_ble_eq_true rfl⟩ ⟨Nat.le_of_ble_eq_true rfl, Nat.le_of_ble_eq_true rfl⟩ 0 rfl rfl lm_pr lm_pr' rfl rfl (Nat.le_of_ble_eq_true rfl) dX7_set_46 (st' := [.int r14]) rfl rfl ?_
          cases hF
          exact lm_iret C hr hk rfl rfl dX7_set_49
        · have hF := lm_brf hF c11
          refine lm_iconst C (v := (-1 : Int32)) dX7_set_37 (by decide) rfl ?_
          cases hF
          exact lm_iret C hr hk rfl rfl dX7_set_38
    · have hF := lm_brf hF c3
      refine lm_bipush C (v := (60 : Int32)) dX7_set_15 (by decide) rfl ?_
      refine lm_goto C (tgt := 31) dX7_set_17 (by decide) ?_
      obtain ⟨r15, qr15, hF⟩ := lm_bde hF
      refine lm_callSR C (n := 3) (m_X7_in D z zo l   x2 (0 : Int32) (60 : Int32) r15 qr15) gX7_set_X7_in rfl (by decide +kernel) ⟨Nat.le_of_ble_eq_true rfl, Nat.le_of_ble_eq_true rfl⟩ ⟨Nat.le_of_ble_eq_true rfl, Nat.le_of_ble_eq_true rfl⟩ (fun _ h => absurd h List.not_mem_nil) rfl rfl (Nat.le_of_ble_eq_true rfl) dX7_set_31 (st' := [.int r15]) rfl rfl ?_
      refine lm_if_ne C (tgt := 39) dX7_set_34 (by decide) rfl (fun c16 => ?_) (fun c16 => ?_)
      · have hF := lm_brt hF c16
        refine lm_aload_n C dX7_set_39 rfl 0 rfl rfl ?_
        obtain ⟨σ17, qσ17, hF⟩ := lm_bde hF
        refine lm_callV C (n := 0) (ci := 7) (w' := (mdW z a σ17)) hA (m_X7_changes D z zo l a σ  σ17 qσ17) gX7_set_X7_changes rfl (by decide +kernel) ⟨Nat.le_of_ble_eq_true rfl, Nat.le_of_ble_eq_true rfl⟩ ⟨Nat.le_of_ble_eq_true rfl, Nat.le_of_ble_eq_true rfl⟩ 0 rfl rfl lm_pr lm_pr' rfl rfl (Nat.le_of_ble_eq_true rfl) dX7_set_40 (st' := []) rfl rfl ?_
        refine lm_aload_n C dX7_set_43 rfl 0 rfl rfl ?_
        refine lm_iload_n C dX7_set_44 rfl 1 rfl rfl ?_
        refine lm_iload_n C dX7_set_45 rfl 2 rfl rfl ?_
        obtain ⟨r19, σ18, qσ18, hF⟩ := lm_b2e hF
        refine lm_callV C (n := 2) (ci := 7) (w' := (mdW z a σ18)) hA (m_X7_sets D z zo l a σ17 x1 x2 r19 σ18 qσ18) gX7_set_X7_sets rfl (by decide +kernel) ⟨Nat.le_of_ble_eq_true rfl, Nat.le_of_ble_eq_true rfl⟩ ⟨Nat.le_of_ble_eq_true rfl, Nat.le_of_ble_eq_true rfl⟩ 0 rfl rfl lm_pr lm_pr' rfl rfl (Nat.le_of_ble_eq_true rfl) dX7_set_46 (st' := [.int r19]) rfl rfl ?_
        cases hF
        exact lm_iret C hr hk rfl rfl dX7_set_49
      · have hF := lm_brf hF c16
        refine lm_iconst C (v := (-1 : Int32)) dX7_set_37 (by decide) rfl ?_
        cases hF
        exact lm_iret C hr hk rfl rfl dX7_set_38
def F_X7_append (σ : Hp) (x1 : Int32) : Option (Int32 × (Hp)) :=
  lm_bd (F_X7_in x1 (33 : Int32) (126 : Int32)) fun r1 =>
  lm_br (¬ r1 = 0)
   (lm_br (¬ (σ 0 8) = (60 : Int32))
    (lm_gi (σ 0 8) 60
    (lm_lt (lm_u σ 5 (((σ 0 8)).toNatClampNeg) x1) fun σ4 =>
    lm_lt (lm_u σ4 0 8 ((σ4 0 8) + (1 : Int32))) fun σ5 =>
    some ((σ5 0 8), σ5)))
    (some ((-3 : Int32), σ)))
   (some ((-1 : Int32), σ))
theorem in7_X7_append : ∀ w ∈ u_ws RX7 TX7 14, w ∈ wsX7_append := by decide +kernel
theorem fl122_X7_append : Cond.fieldLink RX7 122 "LoopMemoModel" "typed" "I" ∈ wsX7_append := by decide +kernel
theorem fl22_X7_append : Cond.fieldLink RX7 22 "LoopMemoModel" "pad" "[I" ∈ wsX7_append := by decide +kernel
set_option maxRecDepth 100000 in
set_option maxHeartbeats 4000000 in
theorem m_X7_append (D : va_G) (z zo : ClassId) (l : Launch) (a : Nat → Nat) (σ : Hp) (x1 : Int32) (r : Int32) (σ' : Hp) (hF : F_X7_append σ x1 = some (r, σ')) : lm_C D z zo l yX7_append wsX7_append 1 22 [.ref (a 0), .int x1] (mdW z a σ) (some (.int r)) (mdW z a σ') := by
  refine lm_C.of (by decide) rfl (Nat.le_of_ble_eq_true rfl) (own := RX7) rfl ?_
  intro p e s m_ args below meth c C hr hk hA
  show lm_St p l e ({ frames := 1, cells := 0, slots := 0, locals := 22 }) s m_ args below meth c D (va_A (mdW z a σ) s.heap.size) 2 0 0 (lm_End below D (some (.int r)) (mdW z a σ) (mdW z a σ') args s) false (mdW z a σ) 0 [(0, .ref (a 0)), (1, .int x1)] []
  rw [F_X7_append] at hF
  refine lm_iload_n C dX7_append_0 rfl 1 rfl rfl ?_
  refine lm_bipush C (v := (33 : Int32)) dX7_append_1 (by decide) rfl ?_
  refine lm_bipush C (v := (126 : Int32)) dX7_append_3 (by decide) rfl ?_
  obtain ⟨r1, qr1, hF⟩ := lm_bde hF
  refine lm_callSR C (n := 3) (m_X7_in D z zo l   x1 (33 : Int32) (126 : Int32) r1 qr1) gX7_append_X7_in rfl (by decide +kernel) ⟨Nat.le_of_ble_eq_true rfl, Nat.le_of_ble_eq_true rfl⟩ ⟨Nat.le_of_ble_eq_true rfl, Nat.le_of_ble_eq_true rfl⟩ (fun _ h => absurd h List.not_mem_nil) rfl rfl (Nat.le_of_ble_eq_true rfl) dX7_append_5 (st' := [.int r1]) rfl rfl ?_
  refine lm_if_ne C (tgt := 13) dX7_append_8 (by decide) rfl (fun c2 => ?_) (fun c2 => ?_)
  · have hF := lm_brt hF c2
    refine lm_aload_n C dX7_append_13 rfl 0 rfl rfl ?_
    refine lm_getf C (T := TX7) (N := 14) (v := .int (σ 0 8)) in7_X7_append 0 rfl rfl 8 (by decide) fl122_X7_append rfl rfl dX7_append_14 rfl ?_
    refine lm_bipush C (v := (60 : Int32)) dX7_append_17 (by decide) rfl ?_
    refine lm_icmp_ne C (tgt := 25) dX7_append_19 (by decide) rfl (fun c3 => ?_) (fun c3 => ?_)
    · have hF := lm_brt hF c3
      refine lm_aload_n C dX7_append_25 rfl 0 rfl rfl ?_
      refine lm_getf C (T := TX7) (N := 14) (v := .ref (a 5)) in7_X7_append 0 rfl rfl 7 (by decide) fl22_X7_append rfl rfl dX7_append_26 rfl ?_
      refine lm_aload_n C dX7_append_29 rfl 0 rfl rfl ?_
      refine lm_getf C (T := TX7) (N := 14) (v := .int (σ 0 8)) in7_X7_append 0 rfl rfl 8 (by decide) fl122_X7_append rfl rfl dX7_append_30 rfl ?_
      refine lm_iload_n C dX7_append_33 rfl 1 rfl rfl ?_
      obtain ⟨b6, hF⟩ := lm_gie hF
      obtain ⟨σ4, eσ4, hF⟩ := lm_lte hF
      refine lm_iast C (w' := (mdW z a σ4)) 5 rfl b6 dX7_append_34 (by rw [← eσ4]; rfl) rfl ?_
      refine lm_aload_n C dX7_append_35 rfl 0 rfl rfl ?_
      refine lm_dup C dX7_append_36 rfl rfl ?_
      refine lm_getf C (T := TX7) (N := 14) (v := .int (σ4 0 8)) in7_X7_append 0 rfl rfl 8 (by decide) fl122_X7_append rfl rfl dX7_append_37 rfl ?_
      refine lm_iconst C (v := (1 : Int32)) dX7_append_40 (by decide) rfl ?_
      refine lm_iadd C dX7_append_41 rfl rfl ?_
      obtain ⟨σ5, eσ5, hF⟩ := lm_lte hF
      refine lm_putf C (T := TX7) (N := 14) (ty := .int) (v := .int ((σ4 0 8) + (1 : Int32))) (w' := (mdW z a σ5)) in7_X7_append tyX7 tyX7_ok nmX7 0 rfl rfl 8 (by decide) fl122_X7_append rfl rfl rfl rfl rfl (Nat.le_of_ble_eq_true rfl) dX7_append_42 (by rw [← eσ5]; rfl) rfl ?_
      refine lm_aload_n C dX7_append_45 rfl 0 rfl rfl ?_
      refine lm_getf C (T := TX7) (N := 14) (v := .int (σ5 0 8)) in7_X7_append 0 rfl rfl 8 (by decide) fl122_X7_append rfl rfl dX7_append_46 rfl ?_
      cases hF
      exact lm_iret C hr hk rfl rfl dX7_append_49
    · have hF := lm_brf hF c3
      refine lm_bipush C (v := (-3 : Int32)) dX7_append_22 (by decide) rfl ?_
      cases hF
      exact lm_iret C hr hk rfl rfl dX7_append_24
  · have hF := lm_brf hF c2
    refine lm_iconst C (v := (-1 : Int32)) dX7_append_11 (by decide) rfl ?_
    cases hF
    exact lm_iret C hr hk rfl rfl dX7_append_12
def F_X7_clear (σ : Hp)  : Option (Int32 × (Hp)) :=
  lm_lt (lm_u σ 0 8 (0 : Int32)) fun σ1 =>
  some ((σ 0 8), σ1)
theorem in7_X7_clear : ∀ w ∈ u_ws RX7 TX7 14, w ∈ wsX7_clear := by decide +kernel
theorem fl122_X7_clear : Cond.fieldLink RX7 122 "LoopMemoModel" "typed" "I" ∈ wsX7_clear := by decide +kernel
set_option maxRecDepth 100000 in
set_option maxHeartbeats 4000000 in
theorem m_X7_clear (D : va_G) (z zo : ClassId) (l : Launch) (a : Nat → Nat) (σ : Hp)  (r : Int32) (σ' : Hp) (hF : F_X7_clear σ  = some (r, σ')) : lm_C D z zo l yX7_clear wsX7_clear 0 0 [.ref (a 0)] (mdW z a σ) (some (.int r)) (mdW z a σ') := by
  refine lm_C.of (by decide) rfl (Nat.le_of_ble_eq_true rfl) (own := RX7) rfl ?_
  intro p e s m_ args below meth c C hr hk hA
  show lm_St p l e ({ frames := 0, cells := 0, slots := 0, locals := 0 }) s m_ args below meth c D (va_A (mdW z a σ) s.heap.size) 2 0 0 (lm_End below D (some (.int r)) (mdW z a σ) (mdW z a σ') args s) false (mdW z a σ) 0 [(0, .ref (a 0))] []
  rw [F_X7_clear] at hF
  refine lm_aload_n C dX7_clear_0 rfl 0 rfl rfl ?_
  refine lm_getf C (T := TX7) (N := 14) (v := .int (σ 0 8)) in7_X7_clear 0 rfl rfl 8 (by decide) fl122_X7_clear rfl rfl dX7_clear_1 rfl ?_
  refine lm_istore_n C (lv' := [(0, .ref (a 0)), (1, .int (σ 0 8))]) dX7_clear_4 rfl (by decide) rfl [1, 0] rfl rfl ?_
  refine lm_aload_n C dX7_clear_5 rfl 0 rfl rfl ?_
  refine lm_iconst C (v := (0 : Int32)) dX7_clear_6 (by decide) rfl ?_
  obtain ⟨σ1, eσ1, hF⟩ := lm_lte hF
  refine lm_putf C (T := TX7) (N := 14) (ty := .int) (v := .int (0 : Int32)) (w' := (mdW z a σ1)) in7_X7_clear tyX7 tyX7_ok nmX7 0 rfl rfl 8 (by decide) fl122_X7_clear rfl rfl rfl rfl rfl (Nat.le_of_ble_eq_true rfl) dX7_clear_7 (by rw [← eσ1]; rfl) rfl ?_
  refine lm_iload_n C dX7_clear_10 rfl 1 rfl rfl ?_
  cases hF
  exact lm_iret C hr hk rfl rfl dX7_clear_11
def F_X7_isAt (σ : Hp) (x1 x2 : Int32) : Option Int32 :=
  lm_br ((σ 0 8) ≤ (σ 0 11))
   (some (0 : Int32))
   (lm_gi (σ 0 11) 60
   (lm_bd (F_X7_in (σ 5 ((σ 0 11)).toNatClampNeg) x1 x2) fun r3 =>
   lm_br (r3 = 0)
    (some (0 : Int32))
    (some (1 : Int32))))
theorem in7_X7_isAt : ∀ w ∈ u_ws RX7 TX7 14, w ∈ wsX7_isAt := by decide +kernel
theorem fl125_X7_isAt : Cond.fieldLink RX7 125 "LoopMemoModel" "spot" "I" ∈ wsX7_isAt := by decide +kernel
theorem fl122_X7_isAt : Cond.fieldLink RX7 122 "LoopMemoModel" "typed" "I" ∈ wsX7_isAt := by decide +kernel
theorem fl22_X7_isAt : Cond.fieldLink RX7 22 "LoopMemoModel" "pad" "[I" ∈ wsX7_isAt := by decide +kernel
set_option maxRecDepth 100000 in
set_option maxHeartbeats 4000000 in
theorem m_X7_isAt (D : va_G) (z zo : ClassId) (l : Launch) (a : Nat → Nat) (σ : Hp) (x1 x2 : Int32) (r : Int32)  (hF : F_X7_isAt σ x1 x2 = some r) : lm_CR D z zo l yX7_isAt wsX7_isAt 1 22 [.ref (a 0), .int x1, .int x2] (mdW z a σ) (some (.int r)) := by
  refine lm_CR.of (by decide) rfl (Nat.le_of_ble_eq_true rfl) (own := RX7) rfl ?_
  intro p e s m_ args below meth c C hr hk
  show lm_St p l e ({ frames := 1, cells := 0, slots := 0, locals := 22 }) s m_ args below meth c D (fun _ => False) 3 0 0 (lm_EndR below (some (.int r)) args s) true (mdW z a σ) 0 [(0, .ref (a 0)), (1, .int x1), (2, .int x2)] []
  rw [F_X7_isAt] at hF
  refine lm_aload_n C dX7_isAt_0 rfl 0 rfl rfl ?_
  refine lm_getf C (T := TX7) (N := 14) (v := .int (σ 0 11)) in7_X7_isAt 0 rfl rfl 11 (by decide) fl125_X7_isAt rfl rfl dX7_isAt_1 rfl ?_
  refine lm_aload_n C dX7_isAt_4 rfl 0 rfl rfl ?_
  refine lm_getf C (T := TX7) (N := 14) (v := .int (σ 0 8)) in7_X7_isAt 0 rfl rfl 8 (by decide) fl122_X7_isAt rfl rfl dX7_isAt_5 rfl ?_
  refine lm_icmp_ge C (tgt := 32) dX7_isAt_8 (by decide) rfl (fun c1 => ?_) (fun c1 => ?_)
  · have hF := lm_brt hF c1
    refine lm_iconst C (v := (0 : Int32)) dX7_isAt_32 (by decide) rfl ?_
    cases hF
    exact lm_zretR C hr hk rfl rfl dX7_isAt_33
  · have hF := lm_brf hF c1
    refine lm_aload_n C dX7_isAt_11 rfl 0 rfl rfl ?_
    refine lm_getf C (T := TX7) (N := 14) (v := .ref (a 5)) in7_X7_isAt 0 rfl rfl 7 (by decide) fl22_X7_isAt rfl rfl dX7_isAt_12 rfl ?_
    refine lm_aload_n C dX7_isAt_15 rfl 0 rfl rfl ?_
    refine lm_getf C (T := TX7) (N := 14) (v := .int (σ 0 11)) in7_X7_isAt 0 rfl rfl 11 (by decide) fl125_X7_isAt rfl rfl dX7_isAt_16 rfl ?_
    obtain ⟨b2, hF⟩ := lm_gie hF
    refine lm_iald C (v := (σ 5 ((σ 0 11)).toNatClampNeg)) 5 rfl b2 rfl dX7_isAt_19 rfl ?_
    refine lm_iload_n C dX7_isAt_20 rfl 1 rfl rfl ?_
    refine lm_iload_n C dX7_isAt_21 rfl 2 rfl rfl ?_
    obtain ⟨r3, qr3, hF⟩ := lm_bde hF
    refine lm_callSR C (n := 3) (m_X7_in D z zo l   (σ 5 ((σ 0 11)).toNatClampNeg) x1 x2 r3 qr3) gX7_isAt_X7_in rfl (by decide +kernel) ⟨Nat.le_of_ble_eq_true rfl, Nat.le_of_ble_eq_true rfl⟩ ⟨Nat.le_of_ble_eq_true rfl, Nat.le_of_ble_eq_true rfl⟩ (fun _ h => absurd h List.not_mem_nil) rfl rfl (Nat.le_of_ble_eq_true rfl) dX7_isAt_22 (st' := [.int r3]) rfl rfl ?_
    refine lm_if_eq C (tgt := 32) dX7_isAt_25 (by decide) rfl (fun c4 => ?_) (fun c4 => ?_)
    · have hF := lm_brt hF c4
      refine lm_iconst C (v := (0 : Int32)) dX7_isAt_32 (by decide) rfl ?_
      cases hF
      exact lm_zretR C hr hk rfl rfl dX7_isAt_33
    · have hF := lm_brf hF c4
      refine lm_iconst C (v := (1 : Int32)) dX7_isAt_28 (by decide) rfl ?_
      refine lm_goto C (tgt := 33) dX7_isAt_29 (by decide) ?_
      cases hF
      exact lm_zretR C hr hk rfl rfl dX7_isAt_33
def F_X7_sign (σ : Hp) (x1 : Int32) : Option (Int32 × (Hp)) :=
  lm_bd (F_X7_isAt σ x1 x1) fun r1 =>
  lm_br (r1 = 0)
   (lm_lt (lm_u σ 0 11 ((σ 0 11) + (0 : Int32))) fun σ3 =>
   lm_gd (r1 = 0 ∨ r1 = 1) (some (r1, σ3)))
   (lm_lt (lm_u σ 0 11 ((σ 0 11) + (1 : Int32))) fun σ5 =>
   lm_gd (r1 = 0 ∨ r1 = 1) (some (r1, σ5)))
theorem in7_X7_sign : ∀ w ∈ u_ws RX7 TX7 14, w ∈ wsX7_sign := by decide +kernel
theorem fl125_X7_sign : Cond.fieldLink RX7 125 "LoopMemoModel" "spot" "I" ∈ wsX7_sign := by decide +kernel
set_option maxRecDepth 100000 in
set_option maxHeartbeats 4000000 in
theorem m_X7_sign (D : va_G) (z zo : ClassId) (l : Launch) (a : Nat → Nat) (σ : Hp) (x1 : Int32) (r : Int32) (σ' : Hp) (hF : F_X7_sign σ x1 = some (r, σ')) : lm_C D z zo l yX7_sign wsX7_sign 2 44 [.ref (a 0), .int x1] (mdW z a σ) (some (.int r)) (mdW z a σ') := by
  refine lm_C.of (by decide) rfl (Nat.le_of_ble_eq_true rfl) (own := RX7) rfl ?_
  intro p e s m_ args below meth c C hr hk hA
  show lm_St p l e ({ frames := 2, cells := 0, slots := 0, locals := 44 }) s m_ args below meth c D (va_A (mdW z a σ) s.heap.size) 3 0 0 (lm_End below D (some (.int r)) (mdW z a σ) (mdW z a σ') args s) false (mdW z a σ) 0 [(0, .ref (a 0)), (1, .int x1)] []
  rw [F_X7_sign] at hF
  refine lm_aload_n C dX7_sign_0 rfl 0 rfl rfl ?_
  refine lm_iload_n C dX7_sign_1 rfl 1 rfl rfl ?_
  refine lm_iload_n C dX7_sign_2 rfl 1 rfl rfl ?_
  obtain ⟨r1, qr1, hF⟩ := lm_bde hF
  refine lm_callVR C (n := 2) (ci := 7) (m_X7_isAt D z zo l a σ x1 x1 r1 qr1) gX7_sign_X7_isAt rfl (by decide +kernel) ⟨Nat.le_of_ble_eq_true rfl, Nat.le_of_ble_eq_true rfl⟩ ⟨Nat.le_of_ble_eq_true rfl, Nat.le_of_ble_eq_true rfl⟩ 0 rfl rfl (fun _ h => h) rfl rfl (Nat.le_of_ble_eq_true rfl) dX7_sign_3 (st' := [.int r1]) rfl rfl ?_
  refine lm_istore_n C (lv' := [(0, .ref (a 0)), (1, .int x1), (2, .int r1)]) dX7_sign_6 rfl (by decide) rfl [1, 2, 0] rfl rfl ?_
  refine lm_aload_n C dX7_sign_7 rfl 0 rfl rfl ?_
  refine lm_dup C dX7_sign_8 rfl rfl ?_
  refine lm_getf C (T := TX7) (N := 14) (v := .int (σ 0 11)) in7_X7_sign 0 rfl rfl 11 (by decide) fl125_X7_sign rfl rfl dX7_sign_9 rfl ?_
  refine lm_iload_n C dX7_sign_12 rfl 2 rfl rfl ?_
  refine lm_if_eq C (tgt := 20) dX7_sign_13 (by decide) rfl (fun c2 => ?_) (fun c2 => ?_)
  · have hF := lm_brt hF c2
    refine lm_iconst C (v := (0 : Int32)) dX7_sign_20 (by decide) rfl ?_
    refine lm_iadd C dX7_sign_21 rfl rfl ?_
    obtain ⟨σ3, eσ3, hF⟩ := lm_lte hF
    refine lm_putf C (T := TX7) (N := 14) (ty := .int) (v := .int ((σ 0 11) + (0 : Int32))) (w' := (mdW z a σ3)) in7_X7_sign tyX7 tyX7_ok nmX7 0 rfl rfl 11 (by decide) fl125_X7_sign rfl rfl rfl rfl rfl (Nat.le_of_ble_eq_true rfl) dX7_sign_22 (by rw [← eσ3]; rfl) rfl ?_
    refine lm_iload_n C dX7_sign_25 rfl 2 rfl rfl ?_
    obtain ⟨c4, hF⟩ := lm_gde hF
    cases hF
    exact lm_zret C hr hk (lm_boolok c4) rfl rfl dX7_sign_26
  · have hF := lm_brf hF c2
    refine lm_iconst C (v := (1 : Int32)) dX7_sign_16 (by decide) rfl ?_
    refine lm_goto C (tgt := 21) dX7_sign_17 (by decide) ?_
    refine lm_iadd C dX7_sign_21 rfl rfl ?_
    obtain ⟨σ5, eσ5, hF⟩ := lm_lte hF
    refine lm_putf C (T := TX7) (N := 14) (ty := .int) (v := .int ((σ 0 11) + (1 : Int32))) (w' := (mdW z a σ5)) in7_X7_sign tyX7 tyX7_ok nmX7 0 rfl rfl 11 (by decide) fl125_X7_sign rfl rfl rfl rfl rfl (Nat.le_of_ble_eq_true rfl) dX7_sign_22 (by rw [← eσ5]; rfl) rfl ?_
    refine lm_iload_n C dX7_sign_25 rfl 2 rfl rfl ?_
    obtain ⟨c6, hF⟩ := lm_gde hF
    cases hF
    exact lm_zret C hr hk (lm_boolok c6) rfl rfl dX7_sign_26
def F_X7_number_L39 : Nat → Hp → Int32 → Int32 → Int32 → Option (Int32 × (Hp))
  | 0, _, _, _, _ => none
  | n + 1, σx, x1, x3, x4 =>
    lm_br (x4 ≤ 0)
     (lm_gi (((4 : Int32) * (σx 0 12)) + x1) 124
     (lm_lt (lm_u σx 7 (((((4 : Int32) * (σx 0 12)) + x1)).toNatClampNeg) x4) fun σ7 =>
     some ((1 : Int32), σ7)))
     (lm_bd (F_X7_isAt σx (48 : Int32) (57 : Int32)) fun r9 =>
     lm_br (r9 = 0)
      (lm_gi (((4 : Int32) * (σx 0 12)) + x1) 124
      (lm_lt (lm_u σx 7 (((((4 : Int32) * (σx 0 12)) + x1)).toNatClampNeg) x4) fun σ11 =>
      some ((1 : Int32), σ11)))
      (lm_gi (σx 0 11) 60
      (lm_br (x3 < ((((10 : Int32) * x4) + (σx 5 ((σx 0 11)).toNatClampNeg)) - (48 : Int32)))
       (lm_gi (((4 : Int32) * (σx 0 12)) + x1) 124
       (lm_lt (lm_u σx 7 (((((4 : Int32) * (σx 0 12)) + x1)).toNatClampNeg) x4) fun σ15 =>
       some ((1 : Int32), σ15)))
       (lm_gi (σx 0 11) 60
       (lm_lt ((((10 : Int32) * x4) + (σx 5 ((σx 0 11)).toNatClampNeg)) - (48 : Int32)) fun t18 =>
       lm_lt (lm_u σx 0 11 ((σx 0 11) + (1 : Int32))) fun σ19 =>
       F_X7_number_L39 n σ19 x1 x3 t18)))))
def F_X7_number (σ : Hp) (x1 x2 x3 : Int32) : Option (Int32 × (Hp)) :=
  lm_bd (F_X7_isAt σ ((48 : Int32) + x2) (57 : Int32)) fun r1 =>
  lm_br (¬ r1 = 0)
   (lm_gi (σ 0 11) 60
   (lm_lt ((σ 5 ((σ 0 11)).toNatClampNeg) - (48 : Int32)) fun t4 =>
   lm_lt (lm_u σ 0 11 ((σ 0 11) + (1 : Int32))) fun σ5 =>
   F_X7_number_L39 1000 σ5 x1 x3 t4))
   (some ((0 : Int32), σ))
theorem in7_X7_number : ∀ w ∈ u_ws RX7 TX7 14, w ∈ wsX7_number := by decide +kernel
theorem fl22_X7_number : Cond.fieldLink RX7 22 "LoopMemoModel" "pad" "[I" ∈ wsX7_number := by decide +kernel
theorem fl125_X7_number : Cond.fieldLink RX7 125 "LoopMemoModel" "spot" "I" ∈ wsX7_number := by decide +kernel
theorem fl28_X7_number : Cond.fieldLink RX7 28 "LoopMemoModel" "read" "[I" ∈ wsX7_number := by decide +kernel
theorem fl131_X7_number : Cond.fieldLink RX7 131 "LoopMemoModel" "many" "I" ∈ wsX7_number := by decide +kernel
set_option maxRecDepth 100000 in
set_option maxHeartbeats 4000000 in
theorem m_X7_number (D : va_G) (z zo : ClassId) (l : Launch) (a : Nat → Nat) (σ : Hp) (x1 x2 x3 : Int32) (r : Int32) (σ' : Hp) (hF : F_X7_number σ x1 x2 x3 = some (r, σ')) : lm_C D z zo l yX7_number wsX7_number 2 44 [.ref (a 0), .int x1, .int x2, .int x3] (mdW z a σ) (some (.int r)) (mdW z a σ') := by
  refine lm_C.of (by decide) rfl (Nat.le_of_ble_eq_true rfl) (own := RX7) rfl ?_
  intro p e s m_ args below meth c C hr hk hA
  have loop_39 : ∀ (n : Nat) (σx : Hp) (x1 : Int32) (x3 : Int32) (x4 : Int32), F_X7_number_L39 n σx x1 x3 x4 = some (r, σ') → lm_St p l e ({ frames := 2, cells := 0, slots := 0, locals := 44 }) s m_ args below meth c D (va_A (mdW z a σ) s.heap.size) 5 0 0 (lm_End below D (some (.int r)) (mdW z a σ) (mdW z a σ') args s) false (mdW z a σx) 39 [(0, .ref (a 0)), (1, .int x1), (3, .int x3), (4, .int x4)] [] := by
    intro n
    induction n with
    | zero => intro σx x1 x3 x4 hF; cases (show (none : Option _) = some _ from hF)
    | succ n ih =>
      intro σx x1 x3 x4 hF
      rw [F_X7_number_L39] at hF
      refine lm_iload C dX7_number_39 3 rfl rfl ?_
      refine lm_if_le C (tgt := 110) dX7_number_41 (by decide) rfl (fun c6 => ?_) (fun c6 => ?_)
      · have hF := lm_brt hF c6
        refine lm_aload_n C dX7_number_110 rfl 0 rfl rfl ?_
        refine lm_getf C (T := TX7) (N := 14) (v := .ref (a 7)) in7_X7_number 0 rfl rfl 13 (by decide) fl28_X7_number rfl rfl dX7_number_111 rfl ?_
        refine lm_iconst C (v := (4 : Int32)) dX7_number_114 (by decide) rfl ?_
        refine lm_aload_n C dX7_number_115 rfl 0 rfl rfl ?_
        refine lm_getf C (T := TX7) (N := 14) (v := .int (σx 0 12)) in7_X7_number 0 rfl rfl 12 (by decide) fl131_X7_number rfl rfl dX7_number_116 rfl ?_
        refine lm_imul C dX7_number_119 rfl rfl ?_
        refine lm_iload_n C dX7_number_120 rfl 1 rfl rfl ?_
        refine lm_iadd C dX7_number_121 rfl rfl ?_
        refine lm_iload C dX7_number_122 3 rfl rfl ?_
        obtain ⟨b8, hF⟩ := lm_gie hF
        obtain ⟨σ7, eσ7, hF⟩ := lm_lte hF
        refine lm_iast C (w' := (mdW z a σ7)) 7 rfl b8 dX7_number_124 (by rw [← eσ7]; rfl) rfl ?_
        refine lm_iconst C (v := (1 : Int32)) dX7_number_125 (by decide) rfl ?_
        cases hF
        exact lm_zret C hr hk rfl rfl rfl dX7_number_126
      · have hF := lm_brf hF c6
        refine lm_aload_n C dX7_number_44 rfl 0 rfl rfl ?_
        refine lm_bipush C (v := (48 : Int32)) dX7_number_45 (by decide) rfl ?_
        refine lm_bipush C (v := (57 : Int32)) dX7_number_47 (by decide) rfl ?_
        obtain ⟨r9, qr9, hF⟩ := lm_bde hF
        refine lm_callVR C (n := 2) (ci := 7) (m_X7_isAt D z zo l a σx (48 : Int32) (57 : Int32) r9 qr9) gX7_number_X7_isAt rfl (by decide +kernel) ⟨Nat.le_of_ble_eq_true rfl, Nat.le_of_ble_eq_true rfl⟩ ⟨Nat.le_of_ble_eq_true rfl, Nat.le_of_ble_eq_true rfl⟩ 0 rfl rfl (fun _ h => h) rfl rfl (Nat.le_of_ble_eq_true rfl) dX7_number_49 (st' := [.int r9]) rfl rfl ?_
        refine lm_if_eq C (tgt := 110) dX7_number_52 (by decide) rfl (fun c10 => ?_) (fun c10 => ?_)
        · have hF := lm_brt hF c10
          refine lm_aload_n C dX7_number_110 rfl 0 rfl rfl ?_
          refine lm_getf C (T := TX7) (N := 14) (v := .ref (a 7)) in7_X7_number 0 rfl rfl 13 (by decide) fl28_X7_number rfl rfl dX7_number_111 rfl ?_
          refine lm_iconst C (v := (4 : Int32)) dX7_number_114 (by decide) rfl ?_
          refine lm_aload_n C dX7_number_115 rfl 0 rfl rfl ?_
          refine lm_getf C (T := TX7) (N := 14) (v := .int (σx 0 12)) in7_X7_number 0 rfl rfl 12 (by decide) fl131_X7_number rfl rfl dX7_number_116 rfl ?_
          refine lm_imul C dX7_number_119 rfl rfl ?_
          refine lm_iload_n C dX7_number_120 rfl 1 rfl rfl ?_
          refine lm_iadd C dX7_number_121 rfl rfl ?_
          refine lm_iload C dX7_number_122 3 rfl rfl ?_
          obtain ⟨b12, hF⟩ := lm_gie hF
          obtain ⟨σ11, eσ11, hF⟩ := lm_lte hF
          refine lm_iast C (w' := (mdW z a σ11)) 7 rfl b12 dX7_number_124 (by rw [← eσ11]; rfl) rfl ?_
          refine lm_iconst C (v := (1 : Int32)) dX7_number_125 (by decide) rfl ?_
          cases hF
          exact lm_zret C hr hk rfl rfl rfl dX7_number_126
        · have hF := lm_brf hF c10
          refine lm_bipush C (v := (10 : Int32)) dX7_number_55 (by decide) rfl ?_
          refine lm_iload C dX7_number_57 3 rfl rfl ?_
          refine lm_imul C dX7_number_59 rfl rfl ?_
          refine lm_aload_n C dX7_number_60 rfl 0 rfl rfl ?_
          refine lm_getf C (T := TX7) (N := 14) (v := .ref (a 5)) in7_X7_number 0 rfl rfl 7 (by decide) fl22_X7_number rfl rfl dX7_number_61 rfl ?_
          refine lm_aload_n C dX7_number_64 rfl 0 rfl rfl ?_
          refine lm_getf C (T := TX7) (N := 14) (v := .int (σx 0 11)) in7_X7_number 0 rfl rfl 11 (by decide) fl125_X7_number rfl rfl dX7_number_65 rfl ?_
          obtain ⟨b13, hF⟩ := lm_gie hF
          refine lm_iald C (v := (σx 5 ((σx 0 11)).toNatClampNeg)) 5 rfl b13 rfl dX7_number_68 rfl ?_
          refine lm_iadd C dX7_number_69 rfl rfl ?_
          refine lm_bipush C (v := (48 : Int32)) dX7_number_70 (by decide) rfl ?_
          refine lm_isub C dX7_number_72 rfl rfl ?_
          refine lm_iload_n C dX7_number_73 rfl 2 rfl rfl ?_
          refine lm_icmp_gt C (tgt := 110) dX7_number_74 (by decide) rfl (fun c14 => ?_) (fun c14 => ?_)
          · have hF := lm_brt hF c14
            refine lm_aload_n C dX7_number_110 rfl 0 rfl rfl ?_
            refine lm_getf C (T := TX7) (N := 14) (v := .ref (a 7)) in7_X7_number 0 rfl rfl 13 (by decide) fl28_X7_number rfl rfl dX7_number_111 rfl ?_
            refine lm_iconst C (v := (4 : Int32)) dX7_number_114 (by decide) rfl ?_
            refine lm_aload_n C dX7_number_115 rfl 0 rfl rfl ?_
            refine lm_getf C (T := TX7) (N := 14) (v := .int (σx 0 12)) in7_X7_number 0 rfl rfl 12 (by decide) fl131_X7_number rfl rfl dX7_number_116 rfl ?_
            refine lm_imul C dX7_number_119 rfl rfl ?_
            refine lm_iload_n C dX7_number_120 rfl 1 rfl rfl ?_
            refine lm_iadd C dX7_number_121 rfl rfl ?_
            refine lm_iload C dX7_number_122 3 rfl rfl ?_
            obtain ⟨b16, hF⟩ := lm_gie hF
            obtain ⟨σ15, eσ15, hF⟩ := lm_lte hF
            refine lm_iast C (w' := (mdW z a σ15)) 7 rfl b16 dX7_number_124 (by rw [← eσ15]; rfl) rfl ?_
            refine lm_iconst C (v := (1 : Int32)) dX7_number_125 (by decide) rfl ?_
            cases hF
            exact lm_zret C hr hk rfl rfl rfl dX7_number_126
          · have hF := lm_brf hF c14
            refine lm_bipush C (v := (10 : Int32)) dX7_number_77 (by decide) rfl ?_
            refine lm_iload C dX7_number_79 3 rfl rfl ?_
            refine lm_imul C dX7_number_81 rfl rfl ?_
            refine lm_aload_n C dX7_number_82 rfl 0 rfl rfl ?_
            refine lm_getf C (T := TX7) (N := 14) (v := .ref (a 5)) in7_X7_number 0 rfl rfl 7 (by decide) fl22_X7_number rfl rfl dX7_number_83 rfl ?_
            refine lm_aload_n C dX7_number_86 rfl 0 rfl rfl ?_
            refine lm_getf C (T := TX7) (N := 14) (v := .int (σx 0 11)) in7_X7_number 0 rfl rfl 11 (by decide) fl125_X7_number rfl rfl dX7_number_87 rfl ?_
            obtain ⟨b17, hF⟩ := lm_gie hF
            refine lm_iald C (v := (σx 5 ((σx 0 11)).toNatClampNeg)) 5 rfl b17 rfl dX7_number_90 rfl ?_
            refine lm_iadd C dX7_number_91 rfl rfl ?_
            refine lm_bipush C (v := (48 : Int32)) dX7_number_92 (by decide) rfl ?_
            refine lm_isub C dX7_number_94 rfl rfl ?_
            obtain ⟨t18, et18, hF⟩ := lm_lte hF
            rw [et18]
            refine lm_istore C (lv' := [(0, .ref (a 0)), (1, .int x1), (3, .int x3), (4, .int t18)]) dX7_number_95 (by decide) rfl [1, 2, 3, 0] rfl rfl ?_
            refine lm_aload_n C dX7_number_97 rfl 0 rfl rfl ?_
            refine lm_dup C dX7_number_98 rfl rfl ?_
            refine lm_getf C (T := TX7) (N := 14) (v := .int (σx 0 11)) in7_X7_number 0 rfl rfl 11 (by decide) fl125_X7_number rfl rfl dX7_number_99 rfl ?_
            refine lm_iconst C (v := (1 : Int32)) dX7_number_102 (by decide) rfl ?_
            refine lm_iadd C dX7_number_103 rfl rfl ?_
            obtain ⟨σ19, eσ19, hF⟩ := lm_lte hF
            refine lm_putf C (T := TX7) (N := 14) (ty := .int) (v := .int ((σx 0 11) + (1 : Int32))) (w' := (mdW z a σ19)) in7_X7_number tyX7 tyX7_ok nmX7 0 rfl rfl 11 (by decide) fl125_X7_number rfl rfl rfl rfl rfl (Nat.le_of_ble_eq_true rfl) dX7_number_104 (by rw [← eσ19]; rfl) rfl ?_
            refine lm_goto C (tgt := 39) dX7_number_107 (by decide) ?_
            exact ih σ19 x1 x3 t18 hF
  show lm_St p l e ({ frames := 2, cells := 0, slots := 0, locals := 44 }) s m_ args below meth c D (va_A (mdW z a σ) s.heap.size) 5 0 0 (lm_End below D (some (.int r)) (mdW z a σ) (mdW z a σ') args s) false (mdW z a σ) 0 [(0, .ref (a 0)), (1, .int x1), (2, .int x2), (3, .int x3)] []
  rw [F_X7_number] at hF
  refine lm_aload_n C dX7_number_0 rfl 0 rfl rfl ?_
  refine lm_bipush C (v := (48 : Int32)) dX7_number_1 (by decide) rfl ?_
  refine lm_iload_n C dX7_number_3 rfl 2 rfl rfl ?_
  refine lm_iadd C dX7_number_4 rfl rfl ?_
  refine lm_bipush C (v := (57 : Int32)) dX7_number_5 (by decide) rfl ?_
  obtain ⟨r1, qr1, hF⟩ := lm_bde hF
  refine lm_callVR C (n := 2) (ci := 7) (m_X7_isAt D z zo l a σ ((48 : Int32) + x2) (57 : Int32) r1 qr1) gX7_number_X7_isAt rfl (by decide +kernel) ⟨Nat.le_of_ble_eq_true rfl, Nat.le_of_ble_eq_true rfl⟩ ⟨Nat.le_of_ble_eq_true rfl, Nat.le_of_ble_eq_true rfl⟩ 0 rfl rfl (fun _ h => h) rfl rfl (Nat.le_of_ble_eq_true rfl) dX7_number_7 (st' := [.int r1]) rfl rfl ?_
  refine lm_if_ne C (tgt := 15) dX7_number_10 (by decide) rfl (fun c2 => ?_) (fun c2 => ?_)
  · have hF := lm_brt hF c2
    refine lm_aload_n C dX7_number_15 rfl 0 rfl rfl ?_
    refine lm_getf C (T := TX7) (N := 14) (v := .ref (a 5)) in7_X7_number 0 rfl rfl 7 (by decide) fl22_X7_number rfl rfl dX7_number_16 rfl ?_
    refine lm_aload_n C dX7_number_19 rfl 0 rfl rfl ?_
    refine lm_getf C (T := TX7) (N := 14) (v := .int (σ 0 11)) in7_X7_number 0 rfl rfl 11 (by decide) fl125_X7_number rfl rfl dX7_number_20 rfl ?_
    obtain ⟨b3, hF⟩ := lm_gie hF
    refine lm_iald C (v := (σ 5 ((σ 0 11)).toNatClampNeg)) 5 rfl b3 rfl dX7_number_23 rfl ?_
    refine lm_bipush C (v := (48 : Int32)) dX7_number_24 (by decide) rfl ?_
    refine lm_isub C dX7_number_26 rfl rfl ?_
    obtain ⟨t4, et4, hF⟩ := lm_lte hF
    rw [et4]
    refine lm_istore C (lv' := [(0, .ref (a 0)), (1, .int x1), (2, .int x2), (3, .int x3), (4, .int t4)]) dX7_number_27 (by decide) rfl [1, 2, 3, 4, 0] rfl rfl ?_
    refine lm_aload_n C dX7_number_29 rfl 0 rfl rfl ?_
    refine lm_dup C dX7_number_30 rfl rfl ?_
    refine lm_getf C (T := TX7) (N := 14) (v := .int (σ 0 11)) in7_X7_number 0 rfl rfl 11 (by decide) fl125_X7_number rfl rfl dX7_number_31 rfl ?_
    refine lm_iconst C (v := (1 : Int32)) dX7_number_34 (by decide) rfl ?_
    refine lm_iadd C dX7_number_35 rfl rfl ?_
    obtain ⟨σ5, eσ5, hF⟩ := lm_lte hF
    refine lm_putf C (T := TX7) (N := 14) (ty := .int) (v := .int ((σ 0 11) + (1 : Int32))) (w' := (mdW z a σ5)) in7_X7_number tyX7 tyX7_ok nmX7 0 rfl rfl 11 (by decide) fl125_X7_number rfl rfl rfl rfl rfl (Nat.le_of_ble_eq_true rfl) dX7_number_36 (by rw [← eσ5]; rfl) rfl ?_
    refine lm_lvsub (lv' := [(0, .ref (a 0)), (1, .int x1), (3, .int x3), (4, .int t4)]) [0, 1, 3, 4] rfl ?_
    exact loop_39 1000 σ5 x1 x3 t4 hF
  · have hF := lm_brf hF c2
    refine lm_iconst C (v := (0 : Int32)) dX7_number_13 (by decide) rfl ?_
    cases hF
    exact lm_zret C hr hk rfl rfl rfl dX7_number_14
def F_X7_readsRow (σ : Hp)  : Option (Int32 × (Hp)) :=
  lm_b2 (F_X7_number σ (1 : Int32) (0 : Int32) (9 : Int32)) fun r2 σ1 =>
  lm_br (r2 = 0)
   (some ((0 : Int32), σ1))
   (lm_b2 (F_X7_sign σ1 (58 : Int32)) fun r5 σ4 =>
   lm_br (r5 = 0)
    (some ((0 : Int32), σ4))
    (lm_b2 (F_X7_number σ4 (2 : Int32) (0 : Int32) (99 : Int32)) fun r8 σ7 =>
    lm_br (r8 = 0)
     (some ((0 : Int32), σ7))
     (some ((1 : Int32), σ7))))
set_option maxRecDepth 100000 in
set_option maxHeartbeats 4000000 in
theorem m_X7_readsRow (D : va_G) (z zo : ClassId) (l : Launch) (a : Nat → Nat) (σ : Hp)  (r : Int32) (σ' : Hp) (hF : F_X7_readsRow σ  = some (r, σ')) : lm_C D z zo l yX7_readsRow wsX7_readsRow 3 68 [.ref (a 0)] (mdW z a σ) (some (.int r)) (mdW z a σ') := by
  refine lm_C.of (by decide) rfl (Nat.le_of_ble_eq_true rfl) (own := RX7) rfl ?_
  intro p e s m_ args below meth c C hr hk hA
  show lm_St p l e ({ frames := 3, cells := 0, slots := 0, locals := 68 }) s m_ args below meth c D (va_A (mdW z a σ) s.heap.size) 1 0 0 (lm_End below D (some (.int r)) (mdW z a σ) (mdW z a σ') args s) false (mdW z a σ) 0 [(0, .ref (a 0))] []
  rw [F_X7_readsRow] at hF
  refine lm_aload_n C dX7_readsRow_0 rfl 0 rfl rfl ?_
  refine lm_iconst C (v := (1 : Int32)) dX7_readsRow_1 (by decide) rfl ?_
  refine lm_iconst C (v := (0 : Int32)) dX7_readsRow_2 (by decide) rfl ?_
  refine lm_bipush C (v := (9 : Int32)) dX7_readsRow_3 (by decide) rfl ?_
  obtain ⟨r2, σ1, qσ1, hF⟩ := lm_b2e hF
  refine lm_callV C (n := 3) (ci := 7) (w' := (mdW z a σ1)) hA (m_X7_number D z zo l a σ (1 : Int32) (0 : Int32) (9 : Int32) r2 σ1 qσ1) gX7_readsRow_X7_number rfl (by decide +kernel) ⟨Nat.le_of_ble_eq_true rfl, Nat.le_of_ble_eq_true rfl⟩ ⟨Nat.le_of_ble_eq_true rfl, Nat.le_of_ble_eq_true rfl⟩ 0 rfl rfl lm_pr lm_pr' rfl rfl (Nat.le_of_ble_eq_true rfl) dX7_readsRow_5 (st' := [.int r2]) rfl rfl ?_
  refine lm_if_eq C (tgt := 35) dX7_readsRow_8 (by decide) rfl (fun c3 => ?_) (fun c3 => ?_)
  · have hF := lm_brt hF c3
    refine lm_iconst C (v := (0 : Int32)) dX7_readsRow_35 (by decide) rfl ?_
    cases hF
    exact lm_zret C hr hk rfl rfl rfl dX7_readsRow_36
  · have hF := lm_brf hF c3
    refine lm_aload_n C dX7_readsRow_11 rfl 0 rfl rfl ?_
    refine lm_bipush C (v := (58 : Int32)) dX7_readsRow_12 (by decide) rfl ?_
    obtain ⟨r5, σ4, qσ4, hF⟩ := lm_b2e hF
    refine lm_callV C (n := 1) (ci := 7) (w' := (mdW z a σ4)) hA (m_X7_sign D z zo l a σ1 (58 : Int32) r5 σ4 qσ4) gX7_readsRow_X7_sign rfl (by decide +kernel) ⟨Nat.le_of_ble_eq_true rfl, Nat.le_of_ble_eq_true rfl⟩ ⟨Nat.le_of_ble_eq_true rfl, Nat.le_of_ble_eq_true rfl⟩ 0 rfl rfl lm_pr lm_pr' rfl rfl (Nat.le_of_ble_eq_true rfl) dX7_readsRow_14 (st' := [.int r5]) rfl rfl ?_
    refine lm_if_eq C (tgt := 35) dX7_readsRow_17 (by decide) rfl (fun c6 => ?_) (fun c6 => ?_)
    · have hF := lm_brt hF c6
      refine lm_iconst C (v := (0 : Int32)) dX7_readsRow_35 (by decide) rfl ?_
      cases hF
      exact lm_zret C hr hk rfl rfl rfl dX7_readsRow_36
    · have hF := lm_brf hF c6
      refine lm_aload_n C dX7_readsRow_20 rfl 0 rfl rfl ?_
      refine lm_iconst C (v := (2 : Int32)) dX7_readsRow_21 (by decide) rfl ?_
      refine lm_iconst C (v := (0 : Int32)) dX7_readsRow_22 (by decide) rfl ?_
      refine lm_bipush C (v := (99 : Int32)) dX7_readsRow_23 (by decide) rfl ?_
      obtain ⟨r8, σ7, qσ7, hF⟩ := lm_b2e hF
      refine lm_callV C (n := 3) (ci := 7) (w' := (mdW z a σ7)) hA (m_X7_number D z zo l a σ4 (2 : Int32) (0 : Int32) (99 : Int32) r8 σ7 qσ7) gX7_readsRow_X7_number rfl (by decide +kernel) ⟨Nat.le_of_ble_eq_true rfl, Nat.le_of_ble_eq_true rfl⟩ ⟨Nat.le_of_ble_eq_true rfl, Nat.le_of_ble_eq_true rfl⟩ 0 rfl rfl lm_pr lm_pr' rfl rfl (Nat.le_of_ble_eq_true rfl) dX7_readsRow_25 (st' := [.int r8]) rfl rfl ?_
      refine lm_if_eq C (tgt := 35) dX7_readsRow_28 (by decide) rfl (fun c9 => ?_) (fun c9 => ?_)
      · have hF := lm_brt hF c9
        refine lm_iconst C (v := (0 : Int32)) dX7_readsRow_35 (by decide) rfl ?_
        cases hF
        exact lm_zret C hr hk rfl rfl rfl dX7_readsRow_36
      · have hF := lm_brf hF c9
        refine lm_iconst C (v := (1 : Int32)) dX7_readsRow_31 (by decide) rfl ?_
        refine lm_goto C (tgt := 36) dX7_readsRow_32 (by decide) ?_
        cases hF
        exact lm_zret C hr hk rfl rfl rfl dX7_readsRow_36
def F_X7_deed (σ : Hp)  : Option (Int32 × (Hp)) :=
  lm_br ((σ 0 8) ≤ (σ 0 11))
   (lm_gi ((4 : Int32) * (σ 0 12)) 124
   (lm_lt (lm_u σ 7 ((((4 : Int32) * (σ 0 12))).toNatClampNeg) (0 : Int32)) fun σ2 =>
   lm_gi (((4 : Int32) * (σ2 0 12)) + (3 : Int32)) 124
   (lm_lt (lm_u σ2 7 (((((4 : Int32) * (σ2 0 12)) + (3 : Int32))).toNatClampNeg) (σ2 0 11)) fun σ3 =>
   some ((0 : Int32), σ3))))
   (lm_gi (σ 0 11) 60
   (lm_gi ((4 : Int32) * (σ 0 12)) 124
   (lm_lt (lm_u σ 7 ((((4 : Int32) * (σ 0 12))).toNatClampNeg) (σ 5 ((σ 0 11)).toNatClampNeg)) fun σ11 =>
   lm_gi (((4 : Int32) * (σ11 0 12)) + (3 : Int32)) 124
   (lm_lt (lm_u σ11 7 (((((4 : Int32) * (σ11 0 12)) + (3 : Int32))).toNatClampNeg) (σ11 0 11)) fun σ12 =>
   lm_br ((σ 5 ((σ 0 11)).toNatClampNeg) = (115 : Int32))
    (lm_lt (lm_u σ12 0 11 ((σ12 0 11) + (1 : Int32))) fun σ14 =>
    lm_br ((σ 5 ((σ 0 11)).toNatClampNeg) = (114 : Int32))
     (some ((1 : Int32), σ14))
     (lm_br (¬ (σ 5 ((σ 0 11)).toNatClampNeg) = (43 : Int32))
      (lm_b2 (F_X7_number σ14 (1 : Int32) (1 : Int32) (20 : Int32)) fun r19 σ18 =>
      lm_br (r19 = 0)
       (some ((0 : Int32), σ18))
       (some ((1 : Int32), σ18)))
      (lm_b2 (F_X7_readsRow σ14) fun r22 σ21 =>
      lm_br (r22 = 0)
       (some ((0 : Int32), σ21))
       (some ((1 : Int32), σ21)))))
    (lm_br ((σ 5 ((σ 0 11)).toNatClampNeg) = (43 : Int32))
     (lm_lt (lm_u σ12 0 11 ((σ12 0 11) + (1 : Int32))) fun σ25 =>
     lm_br ((σ 5 ((σ 0 11)).toNatClampNeg) = (114 : Int32))
      (some ((1 : Int32), σ25))
      (lm_b2 (F_X7_readsRow σ25) fun r29 σ28 =>
      lm_br (r29 = 0)
       (some ((0 : Int32), σ28))
       (some ((1 : Int32), σ28))))
     (lm_br ((σ 5 ((σ 0 11)).toNatClampNeg) = (45 : Int32))
      (lm_lt (lm_u σ12 0 11 ((σ12 0 11) + (1 : Int32))) fun σ32 =>
      lm_br ((σ 5 ((σ 0 11)).toNatClampNeg) = (114 : Int32))
       (some ((1 : Int32), σ32))
       (lm_b2 (F_X7_number σ32 (1 : Int32) (0 : Int32) (19 : Int32)) fun r37 σ36 =>
       lm_br (r37 = 0)
        (some ((0 : Int32), σ36))
        (some ((1 : Int32), σ36))))
      (lm_br ((σ 5 ((σ 0 11)).toNatClampNeg) = (114 : Int32))
       (lm_lt (lm_u σ12 0 11 ((σ12 0 11) + (1 : Int32))) fun σ40 =>
       some ((1 : Int32), σ40))
       (some ((0 : Int32), σ12)))))))))
theorem in7_X7_deed : ∀ w ∈ u_ws RX7 TX7 14, w ∈ wsX7_deed := by decide +kernel
theorem fl125_X7_deed : Cond.fieldLink RX7 125 "LoopMemoModel" "spot" "I" ∈ wsX7_deed := by decide +kernel
theorem fl122_X7_deed : Cond.fieldLink RX7 122 "LoopMemoModel" "typed" "I" ∈ wsX7_deed := by decide +kernel
theorem fl28_X7_deed : Cond.fieldLink RX7 28 "LoopMemoModel" "read" "[I" ∈ wsX7_deed := by decide +kernel
theorem fl131_X7_deed : Cond.fieldLink RX7 131 "LoopMemoModel" "many" "I" ∈ wsX7_deed := by decide +kernel
theorem fl22_X7_deed : Cond.fieldLink RX7 22 "LoopMemoModel" "pad" "[I" ∈ wsX7_deed := by decide +kernel
set_option maxRecDepth 100000 in
set_option maxHeartbeats 4000000 in
theorem m_X7_deed (D : va_G) (z zo : ClassId) (l : Launch) (a : Nat → Nat) (σ : Hp)  (r : Int32) (σ' : Hp) (hF : F_X7_deed σ  = some (r, σ')) : lm_C D z zo l yX7_deed wsX7_deed 4 88 [.ref (a 0)] (mdW z a σ) (some (.int r)) (mdW z a σ') := by
  refine lm_C.of (by decide) rfl (Nat.le_of_ble_eq_true rfl) (own := RX7) rfl ?_
  intro p e s m_ args below meth c C hr hk hA
  show lm_St p l e ({ frames := 4, cells := 0, slots := 0, locals := 88 }) s m_ args below meth c D (va_A (mdW z a σ) s.heap.size) 2 0 0 (lm_End below D (some (.int r)) (mdW z a σ) (mdW z a σ') args s) false (mdW z a σ) 0 [(0, .ref (a 0))] []
  rw [F_X7_deed] at hF
  refine lm_aload_n C dX7_deed_0 rfl 0 rfl rfl ?_
  refine lm_getf C (T := TX7) (N := 14) (v := .int (σ 0 11)) in7_X7_deed 0 rfl rfl 11 (by decide) fl125_X7_deed rfl rfl dX7_deed_1 rfl ?_
  refine lm_aload_n C dX7_deed_4 rfl 0 rfl rfl ?_
  refine lm_getf C (T := TX7) (N := 14) (v := .int (σ 0 8)) in7_X7_deed 0 rfl rfl 8 (by decide) fl122_X7_deed rfl rfl dX7_deed_5 rfl ?_
  refine lm_icmp_ge C (tgt := 23) dX7_deed_8 (by decide) rfl (fun c1 => ?_) (fun c1 => ?_)
  · have hF := lm_brt hF c1
    refine lm_iconst C (v := (0 : Int32)) dX7_deed_23 (by decide) rfl ?_
    refine lm_istore_n C (lv' := [(0, .ref (a 0)), (1, .int (0 : Int32))]) dX7_deed_24 rfl (by decide) rfl [1, 0] rfl rfl ?_
    refine lm_aload_n C dX7_deed_25 rfl 0 rfl rfl ?_
    refine lm_getf C (T := TX7) (N := 14) (v := .ref (a 7)) in7_X7_deed 0 rfl rfl 13 (by decide) fl28_X7_deed rfl rfl dX7_deed_26 rfl ?_
    refine lm_iconst C (v := (4 : Int32)) dX7_deed_29 (by decide) rfl ?_
    refine lm_aload_n C dX7_deed_30 rfl 0 rfl rfl ?_
    refine lm_getf C (T := TX7) (N := 14) (v := .int (σ 0 12)) in7_X7_deed 0 rfl rfl 12 (by decide) fl131_X7_deed rfl rfl dX7_deed_31 rfl ?_
    refine lm_imul C dX7_deed_34 rfl rfl ?_
    refine lm_iload_n C dX7_deed_35 rfl 1 rfl rfl ?_
    obtain ⟨b9, hF⟩ := lm_gie hF
    obtain ⟨σ2, eσ2, hF⟩ := lm_lte hF
    refine lm_iast C (w' := (mdW z a σ2)) 7 rfl b9 dX7_deed_36 (by rw [← eσ2]; rfl) rfl ?_
    refine lm_aload_n C dX7_deed_37 rfl 0 rfl rfl ?_
    refine lm_getf C (T := TX7) (N := 14) (v := .ref (a 7)) in7_X7_deed 0 rfl rfl 13 (by decide) fl28_X7_deed rfl rfl dX7_deed_38 rfl ?_
    refine lm_iconst C (v := (4 : Int32)) dX7_deed_41 (by decide) rfl ?_
    refine lm_aload_n C dX7_deed_42 rfl 0 rfl rfl ?_
    refine lm_getf C (T := TX7) (N := 14) (v := .int (σ2 0 12)) in7_X7_deed 0 rfl rfl 12 (by decide) fl131_X7_deed rfl rfl dX7_deed_43 rfl ?_
    refine lm_imul C dX7_deed_46 rfl rfl ?_
    refine lm_iconst C (v := (3 : Int32)) dX7_deed_47 (by decide) rfl ?_
    refine lm_iadd C dX7_deed_48 rfl rfl ?_
    refine lm_aload_n C dX7_deed_49 rfl 0 rfl rfl ?_
    refine lm_getf C (T := TX7) (N := 14) (v := .int (σ2 0 11)) in7_X7_deed 0 rfl rfl 11 (by decide) fl125_X7_deed rfl rfl dX7_deed_50 rfl ?_
    obtain ⟨b8, hF⟩ := lm_gie hF
    obtain ⟨σ3, eσ3, hF⟩ := lm_lte hF
    refine lm_iast C (w' := (mdW z a σ3)) 7 rfl b8 dX7_deed_53 (by rw [← eσ3]; rfl) rfl ?_
    refine lm_iload_n C dX7_deed_54 rfl 1 rfl rfl ?_
    refine lm_bipush C (v := (115 : Int32)) dX7_deed_55 (by decide) rfl ?_
    refine lm_icmp_eq C (tgt := 80) dX7_deed_57 (by decide) rfl (fun c4 => ?_) (fun c4 => ?_)
    · exact absurd c4 (by decide)
    · refine lm_iload_n C dX7_deed_60 rfl 1 rfl rfl ?_
      refine lm_bipush C (v := (43 : Int32)) dX7_deed_61 (by decide) rfl ?_
      refine lm_icmp_eq C (tgt := 80) dX7_deed_63 (by decide) rfl (fun c5 => ?_) (fun c5 => ?_)
      · exact absurd c5 (by decide)
      · refine lm_iload_n C dX7_deed_66 rfl 1 rfl rfl ?_
        refine lm_bipush C (v := (45 : Int32)) dX7_deed_67 (by decide) rfl ?_
        refine lm_icmp_eq C (tgt := 80) dX7_deed_69 (by decide) rfl (fun c6 => ?_) (fun c6 => ?_)
        · exact absurd c6 (by decide)
        · refine lm_iload_n C dX7_deed_72 rfl 1 rfl rfl ?_
          refine lm_bipush C (v := (114 : Int32)) dX7_deed_73 (by decide) rfl ?_
          refine lm_icmp_eq C (tgt := 80) dX7_deed_75 (by decide) rfl (fun c7 => ?_) (fun c7 => ?_)
          · exact absurd c7 (by decide)
          · refine lm_iconst C (v := (0 : Int32)) dX7_deed_78 (by decide) rfl ?_
            cases hF
            exact lm_zret C hr hk rfl rfl rfl dX7_deed_79
  · have hF := lm_brf hF c1
    refine lm_aload_n C dX7_deed_11 rfl 0 rfl rfl ?_
    refine lm_getf C (T := TX7) (N := 14) (v := .ref (a 5)) in7_X7_deed 0 rfl rfl 7 (by decide) fl22_X7_deed rfl rfl dX7_deed_12 rfl ?_
    refine lm_aload_n C dX7_deed_15 rfl 0 rfl rfl ?_
    refine lm_getf C (T := TX7) (N := 14) (v := .int (σ 0 11)) in7_X7_deed 0 rfl rfl 11 (by decide) fl125_X7_deed rfl rfl dX7_deed_16 rfl ?_
    obtain ⟨b10, hF⟩ := lm_gie hF
    refine lm_iald C (v := (σ 5 ((σ 0 11)).toNatClampNeg)) 5 rfl b10 rfl dX7_deed_19 rfl ?_
    refine lm_goto C (tgt := 24) dX7_deed_20 (by decide) ?_
    refine lm_istore_n C (lv' := [(0, .ref (a 0)), (1, .int (σ 5 ((σ 0 11)).toNatClampNeg))]) dX7_deed_24 rfl (by decide) rfl [1, 0] rfl rfl ?_
    refine lm_aload_n C dX7_deed_25 rfl 0 rfl rfl ?_
    refine lm_getf C (T := TX7) (N := 14) (v := .ref (a 7)) in7_X7_deed 0 rfl rfl 13 (by decide) fl28_X7_deed rfl rfl dX7_deed_26 rfl ?_
    refine lm_iconst C (v := (4 : Int32)) dX7_deed_29 (by decide) rfl ?_
    refine lm_aload_n C dX7_deed_30 rfl 0 rfl rfl ?_
    refine lm_getf C (T := TX7) (N := 14) (v := .int (σ 0 12)) in7_X7_deed 0 rfl rfl 12 (by decide) fl131_X7_deed rfl rfl dX7_deed_31 rfl ?_
    refine lm_imul C dX7_deed_34 rfl rfl ?_
    refine lm_iload_n C dX7_deed_35 rfl 1 rfl rfl ?_
    obtain ⟨b43, hF⟩ := lm_gie hF
    obtain ⟨σ11, eσ11, hF⟩ := lm_lte hF
    refine lm_iast C (w' := (mdW z a σ11)) 7 rfl b43 dX7_deed_36 (by rw [← eσ11]; rfl) rfl ?_
    refine lm_aload_n C dX7_deed_37 rfl 0 rfl rfl ?_
    refine lm_getf C (T := TX7) (N := 14) (v := .ref (a 7)) in7_X7_deed 0 rfl rfl 13 (by decide) fl28_X7_deed rfl rfl dX7_deed_38 rfl ?_
    refine lm_iconst C (v := (4 : Int32)) dX7_deed_41 (by decide) rfl ?_
    refine lm_aload_n C dX7_deed_42 rfl 0 rfl rfl ?_
    refine lm_getf C (T := TX7) (N := 14) (v := .int (σ11 0 12)) in7_X7_deed 0 rfl rfl 12 (by decide) fl131_X7_deed rfl rfl dX7_deed_43 rfl ?_
    refine lm_imul C dX7_deed_46 rfl rfl ?_
    refine lm_iconst C (v := (3 : Int32)) dX7_deed_47 (by decide) rfl ?_
    refine lm_iadd C dX7_deed_48 rfl rfl ?_
    refine lm_aload_n C dX7_deed_49 rfl 0 rfl rfl ?_
    refine lm_getf C (T := TX7) (N := 14) (v := .int (σ11 0 11)) in7_X7_deed 0 rfl rfl 11 (by decide) fl125_X7_deed rfl rfl dX7_deed_50 rfl ?_
    obtain ⟨b42, hF⟩ := lm_gie hF
    obtain ⟨σ12, eσ12, hF⟩ := lm_lte hF
    refine lm_iast C (w' := (mdW z a σ12)) 7 rfl b42 dX7_deed_53 (by rw [← eσ12]; rfl) rfl ?_
    refine lm_iload_n C dX7_deed_54 rfl 1 rfl rfl ?_
    refine lm_bipush C (v := (115 : Int32)) dX7_deed_55 (by decide) rfl ?_
    refine lm_icmp_eq C (tgt := 80) dX7_deed_57 (by decide) rfl (fun c13 => ?_) (fun c13 => ?_)
    · have hF := lm_brt hF c13
      refine lm_aload_n C dX7_deed_80 rfl 0 rfl rfl ?_
      refine lm_dup C dX7_deed_81 rfl rfl ?_
      refine lm_getf C (T := TX7) (N := 14) (v := .int (σ12 0 11)) in7_X7_deed 0 rfl rfl 11 (by decide) fl125_X7_deed rfl rfl dX7_deed_82 rfl ?_
      refine lm_iconst C (v := (1 : Int32)) dX7_deed_85 (by decide) rfl ?_
      refine lm_iadd C dX7_deed_86 rfl rfl ?_
      obtain ⟨σ14, eσ14, hF⟩ := lm_lte hF
      refine lm_putf C (T := TX7) (N := 14) (ty := .int) (v := .int ((σ12 0 11) + (1 : Int32))) (w' := (mdW z a σ14)) in7_X7_deed tyX7 tyX7_ok nmX7 0 rfl rfl 11 (by decide) fl125_X7_deed rfl rfl rfl rfl rfl (Nat.le_of_ble_eq_true rfl) dX7_deed_87 (by rw [← eσ14]; rfl) rfl ?_
      refine lm_iload_n C dX7_deed_90 rfl 1 rfl rfl ?_
      refine lm_bipush C (v := (114 : Int32)) dX7_deed_91 (by decide) rfl ?_
      refine lm_icmp_eq C (tgt := 143) dX7_deed_93 (by decide) rfl (fun c15 => ?_) (fun c15 => ?_)
      · have hF := lm_brt hF c15
        refine lm_iconst C (v := (1 : Int32)) dX7_deed_143 (by decide) rfl ?_
        refine lm_goto C (tgt := 148) dX7_deed_144 (by decide) ?_
        cases hF
        exact lm_zret C hr hk rfl rfl rfl dX7_deed_148
      · have hF := lm_brf hF c15
        refine lm_iload_n C dX7_deed_96 rfl 1 rfl rfl ?_
        refine lm_bipush C (v := (43 : Int32)) dX7_deed_97 (by decide) rfl ?_
        refine lm_icmp_ne C (tgt := 112) dX7_deed_99 (by decide) rfl (fun c16 => ?_) (fun c16 => ?_)
        · have hF := lm_brt hF c16
          refine lm_iload_n C dX7_deed_112 rfl 1 rfl rfl ?_
          refine lm_bipush C (v := (115 : Int32)) dX7_deed_113 (by decide) rfl ?_
          refine lm_icmp_ne C (tgt := 132) dX7_deed_115 (by decide) rfl (fun c17 => ?_) (fun c17 => ?_)
          · exact (by simp_all : False).elim
          · refine lm_aload_n C dX7_deed_118 rfl 0 rfl rfl ?_
            refine lm_iconst C (v := (1 : Int32)) dX7_deed_119 (by decide) rfl ?_
            refine lm_iconst C (v := (1 : Int32)) dX7_deed_120 (by decide) rfl ?_
            refine lm_bipush C (v := (20 : Int32)) dX7_deed_121 (by decide) rfl ?_
            obtain ⟨r19, σ18, qσ18, hF⟩ := lm_b2e hF
            refine lm_callV C (n := 3) (ci := 7) (w' := (mdW z a σ18)) hA (m_X7_number D z zo l a σ14 (1 : Int32) (1 : Int32) (20 : Int32) r19 σ18 qσ18) gX7_deed_X7_number rfl (by decide +kernel) ⟨Nat.le_of_ble_eq_true rfl, Nat.le_of_ble_eq_true rfl⟩ ⟨Nat.le_of_ble_eq_true rfl, Nat.le_of_ble_eq_true rfl⟩ 0 rfl rfl lm_pr lm_pr' rfl rfl (Nat.le_of_ble_eq_true rfl) dX7_deed_123 (st' := [.int r19]) rfl rfl ?_
            refine lm_if_eq C (tgt := 147) dX7_deed_126 (by decide) rfl (fun c20 => ?_) (fun c20 => ?_)
            · have hF := lm_brt hF c20
              refine lm_iconst C (v := (0 : Int32)) dX7_deed_147 (by decide) rfl ?_
              cases hF
              exact lm_zret C hr hk rfl rfl rfl dX7_deed_148
            · have hF := lm_brf hF c20
              refine lm_goto C (tgt := 143) dX7_deed_129 (by decide) ?_
              refine lm_iconst C (v := (1 : Int32)) dX7_deed_143 (by decide) rfl ?_
              refine lm_goto C (tgt := 148) dX7_deed_144 (by decide) ?_
              cases hF
              exact lm_zret C hr hk rfl rfl rfl dX7_deed_148
        · have hF := lm_brf hF c16
          refine lm_aload_n C dX7_deed_102 rfl 0 rfl rfl ?_
          obtain ⟨r22, σ21, qσ21, hF⟩ := lm_b2e hF
          refine lm_callV C (n := 0) (ci := 7) (w' := (mdW z a σ21)) hA (m_X7_readsRow D z zo l a σ14  r22 σ21 qσ21) gX7_deed_X7_readsRow rfl (by decide +kernel) ⟨Nat.le_of_ble_eq_true rfl, Nat.le_of_ble_eq_true rfl⟩ ⟨Nat.le_of_ble_eq_true rfl, Nat.le_of_ble_eq_true rfl⟩ 0 rfl rfl lm_pr lm_pr' rfl rfl (Nat.le_of_ble_eq_true rfl) dX7_deed_103 (st' := [.int r22]) rfl rfl ?_
          refine lm_if_eq C (tgt := 147) dX7_deed_106 (by decide) rfl (fun c23 => ?_) (fun c23 => ?_)
          · have hF := lm_brt hF c23
            refine lm_iconst C (v := (0 : Int32)) dX7_deed_147 (by decide) rfl ?_
            cases hF
            exact lm_zret C hr hk rfl rfl rfl dX7_deed_148
          · have hF := lm_brf hF c23
            refine lm_goto C (tgt := 143) dX7_deed_109 (by decide) ?_
            refine lm_iconst C (v := (1 : Int32)) dX7_deed_143 (by decide) rfl ?_
            refine lm_goto C (tgt := 148) dX7_deed_144 (by decide) ?_
            cases hF
            exact lm_zret C hr hk rfl rfl rfl dX7_deed_148
    · have hF := lm_brf hF c13
      refine lm_iload_n C dX7_deed_60 rfl 1 rfl rfl ?_
      refine lm_bipush C (v := (43 : Int32)) dX7_deed_61 (by decide) rfl ?_
      refine lm_icmp_eq C (tgt := 80) dX7_deed_63 (by decide) rfl (fun c24 => ?_) (fun c24 => ?_)
      · have hF := lm_brt hF c24
        refine lm_aload_n C dX7_deed_80 rfl 0 rfl rfl ?_
        refine lm_dup C dX7_deed_81 rfl rfl ?_
        refine lm_getf C (T := TX7) (N := 14) (v := .int (σ12 0 11)) in7_X7_deed 0 rfl rfl 11 (by decide) fl125_X7_deed rfl rfl dX7_deed_82 rfl ?_
        refine lm_iconst C (v := (1 : Int32)) dX7_deed_85 (by decide) rfl ?_
        refine lm_iadd C dX7_deed_86 rfl rfl ?_
        obtain ⟨σ25, eσ25, hF⟩ := lm_lte hF
        refine lm_putf C (T := TX7) (N := 14) (ty := .int) (v := .int ((σ12 0 11) + (1 : Int32))) (w' := (mdW z a σ25)) in7_X7_deed tyX7 tyX7_ok nmX7 0 rfl rfl 11 (by decide) fl125_X7_deed rfl rfl rfl rfl rfl (Nat.le_of_ble_eq_true rfl) dX7_deed_87 (by rw [← eσ25]; rfl) rfl ?_
        refine lm_iload_n C dX7_deed_90 rfl 1 rfl rfl ?_
        refine lm_bipush C (v := (114 : Int32)) dX7_deed_91 (by decide) rfl ?_
        refine lm_icmp_eq C (tgt := 143) dX7_deed_93 (by decide) rfl (fun c26 => ?_) (fun c26 => ?_)
        · have hF := lm_brt hF c26
          refine lm_iconst C (v := (1 : Int32)) dX7_deed_143 (by decide) rfl ?_
          refine lm_goto C (tgt := 148) dX7_deed_144 (by decide) ?_
          cases hF
          exact lm_zret C hr hk rfl rfl rfl dX7_deed_148
        · have hF := lm_brf hF c26
          refine lm_iload_n C dX7_deed_96 rfl 1 rfl rfl ?_
          refine lm_bipush C (v := (43 : Int32)) dX7_deed_97 (by decide) rfl ?_
          refine lm_icmp_ne C (tgt := 112) dX7_deed_99 (by decide) rfl (fun c27 => ?_) (fun c27 => ?_)
          · exact (by simp_all : False).elim
          · refine lm_aload_n C dX7_deed_102 rfl 0 rfl rfl ?_
            obtain ⟨r29, σ28, qσ28, hF⟩ := lm_b2e hF
            refine lm_callV C (n := 0) (ci := 7) (w' := (mdW z a σ28)) hA (m_X7_readsRow D z zo l a σ25  r29 σ28 qσ28) gX7_deed_X7_readsRow rfl (by decide +kernel) ⟨Nat.le_of_ble_eq_true rfl, Nat.le_of_ble_eq_true rfl⟩ ⟨Nat.le_of_ble_eq_true rfl, Nat.le_of_ble_eq_true rfl⟩ 0 rfl rfl lm_pr lm_pr' rfl rfl (Nat.le_of_ble_eq_true rfl) dX7_deed_103 (st' := [.int r29]) rfl rfl ?_
            refine lm_if_eq C (tgt := 147) dX7_deed_106 (by decide) rfl (fun c30 => ?_) (fun c30 => ?_)
            · have hF := lm_brt hF c30
              refine lm_iconst C (v := (0 : Int32)) dX7_deed_147 (by decide) rfl ?_
              cases hF
              exact lm_zret C hr hk rfl rfl rfl dX7_deed_148
            · have hF := lm_brf hF c30
              refine lm_goto C (tgt := 143) dX7_deed_109 (by decide) ?_
              refine lm_iconst C (v := (1 : Int32)) dX7_deed_143 (by decide) rfl ?_
              refine lm_goto C (tgt := 148) dX7_deed_144 (by decide) ?_
              cases hF
              exact lm_zret C hr hk rfl rfl rfl dX7_deed_148
      · have hF := lm_brf hF c24
        refine lm_iload_n C dX7_deed_66 rfl 1 rfl rfl ?_
        refine lm_bipush C (v := (45 : Int32)) dX7_deed_67 (by decide) rfl ?_
        refine lm_icmp_eq C (tgt := 80) dX7_deed_69 (by decide) rfl (fun c31 => ?_) (fun c31 => ?_)
        · have hF := lm_brt hF c31
          refine lm_aload_n C dX7_deed_80 rfl 0 rfl rfl ?_
          refine lm_dup C dX7_deed_81 rfl rfl ?_
          refine lm_getf C (T := TX7) (N := 14) (v := .int (σ12 0 11)) in7_X7_deed 0 rfl rfl 11 (by decide) fl125_X7_deed rfl rfl dX7_deed_82 rfl ?_
          refine lm_iconst C (v := (1 : Int32)) dX7_deed_85 (by decide) rfl ?_
          refine lm_iadd C dX7_deed_86 rfl rfl ?_
          obtain ⟨σ32, eσ32, hF⟩ := lm_lte hF
          refine lm_putf C (T := TX7) (N := 14) (ty := .int) (v := .int ((σ12 0 11) + (1 : Int32))) (w' := (mdW z a σ32)) in7_X7_deed tyX7 tyX7_ok nmX7 0 rfl rfl 11 (by decide) fl125_X7_deed rfl rfl rfl rfl rfl (Nat.le_of_ble_eq_true rfl) dX7_deed_87 (by rw [← eσ32]; rfl) rfl ?_
          refine lm_iload_n C dX7_deed_90 rfl 1 rfl rfl ?_
          refine lm_bipush C (v := (114 : Int32)) dX7_deed_91 (by decide) rfl ?_
          refine lm_icmp_eq C (tgt := 143) dX7_deed_93 (by decide) rfl (fun c33 => ?_) (fun c33 => ?_)
          · have hF := lm_brt hF c33
            refine lm_iconst C (v := (1 : Int32)) dX7_deed_143 (by decide) rfl ?_
            refine lm_goto C (tgt := 148) dX7_deed_144 (by decide) ?_
            cases hF
            exact lm_zret C hr hk rfl rfl rfl dX7_deed_148
          · have hF := lm_brf hF c33
            refine lm_iload_n C dX7_deed_96 rfl 1 rfl rfl ?_
            refine lm_bipush C (v := (43 : Int32)) dX7_deed_97 (by decide) rfl ?_
            refine lm_icmp_ne C (tgt := 112) dX7_deed_99 (by decide) rfl (fun c34 => ?_) (fun c34 => ?_)
            · refine lm_iload_n C dX7_deed_112 rfl 1 rfl rfl ?_
              refine lm_bipush C (v := (115 : Int32)) dX7_deed_113 (by decide) rfl ?_
              refine lm_icmp_ne C (tgt := 132) dX7_deed_115 (by decide) rfl (fun c35 => ?_) (fun c35 => ?_)
              · refine lm_aload_n C dX7_deed_132 rfl 0 rfl rfl ?_
                refine lm_iconst C (v := (1 : Int32)) dX7_deed_133 (by decide) rfl ?_
                refine lm_iconst C (v := (0 : Int32)) dX7_deed_134 (by decide) rfl ?_
                refine lm_bipush C (v := (19 : Int32)) dX7_deed_135 (by decide) rfl ?_
                obtain ⟨r37, σ36, qσ36, hF⟩ := lm_b2e hF
                refine lm_callV C (n := 3) (ci := 7) (w' := (mdW z a σ36)) hA (m_X7_number D z zo l a σ32 (1 : Int32) (0 : Int32) (19 : Int32) r37 σ36 qσ36) gX7_deed_X7_number rfl (by decide +kernel) ⟨Nat.le_of_ble_eq_true rfl, Nat.le_of_ble_eq_true rfl⟩ ⟨Nat.le_of_ble_eq_true rfl, Nat.le_of_ble_eq_true rfl⟩ 0 rfl rfl lm_pr lm_pr' rfl rfl (Nat.le_of_ble_eq_true rfl) dX7_deed_137 (st' := [.int r37]) rfl rfl ?_
                refine lm_if_eq C (tgt := 147) dX7_deed_140 (by decide) rfl (fun c38 => ?_) (fun c38 => ?_)
                · have hF := lm_brt hF c38
                  refine lm_iconst C (v := (0 : Int32)) dX7_deed_147 (by decide) rfl ?_
                  cases hF
                  exact lm_zret C hr hk rfl rfl rfl dX7_deed_148
                · have hF := lm_brf hF c38
                  refine lm_iconst C (v := (1 : Int32)) dX7_deed_143 (by decide) rfl ?_
                  refine lm_goto C (tgt := 148) dX7_deed_144 (by decide) ?_
                  cases hF
                  exact lm_zret C hr hk rfl rfl rfl dX7_deed_148
              · exact (by simp_all : False).elim
            · exact (by simp_all : False).elim
        · have hF := lm_brf hF c31
          refine lm_iload_n C dX7_deed_72 rfl 1 rfl rfl ?_
          refine lm_bipush C (v := (114 : Int32)) dX7_deed_73 (by decide) rfl ?_
          refine lm_icmp_eq C (tgt := 80) dX7_deed_75 (by decide) rfl (fun c39 => ?_) (fun c39 => ?_)
          · have hF := lm_brt hF c39
            refine lm_aload_n C dX7_deed_80 rfl 0 rfl rfl ?_
            refine lm_dup C dX7_deed_81 rfl rfl ?_
            refine lm_getf C (T := TX7) (N := 14) (v := .int (σ12 0 11)) in7_X7_deed 0 rfl rfl 11 (by decide) fl125_X7_deed rfl rfl dX7_deed_82 rfl ?_
            refine lm_iconst C (v := (1 : Int32)) dX7_deed_85 (by decide) rfl ?_
            refine lm_iadd C dX7_deed_86 rfl rfl ?_
            obtain ⟨σ40, eσ40, hF⟩ := lm_lte hF
            refine lm_putf C (T := TX7) (N := 14) (ty := .int) (v := .int ((σ12 0 11) + (1 : Int32))) (w' := (mdW z a σ40)) in7_X7_deed tyX7 tyX7_ok nmX7 0 rfl rfl 11 (by decide) fl125_X7_deed rfl rfl rfl rfl rfl (Nat.le_of_ble_eq_true rfl) dX7_deed_87 (by rw [← eσ40]; rfl) rfl ?_
            refine lm_iload_n C dX7_deed_90 rfl 1 rfl rfl ?_
            refine lm_bipush C (v := (114 : Int32)) dX7_deed_91 (by decide) rfl ?_
            refine lm_icmp_eq C (tgt := 143) dX7_deed_93 (by decide) rfl (fun c41 => ?_) (fun c41 => ?_)
            · refine lm_iconst C (v := (1 : Int32)) dX7_deed_143 (by decide) rfl ?_
              refine lm_goto C (tgt := 148) dX7_deed_144 (by decide) ?_
              cases hF
              exact lm_zret C hr hk rfl rfl rfl dX7_deed_148
            · exact (by simp_all : False).elim
          · have hF := lm_brf hF c39
            refine lm_iconst C (v := (0 : Int32)) dX7_deed_78 (by decide) rfl ?_
            cases hF
            exact lm_zret C hr hk rfl rfl rfl dX7_deed_79
