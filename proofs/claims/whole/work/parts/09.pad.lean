def F_X3_size (σ : Hp)  : Option Int32 :=
  some (σ 0 1)
theorem in3_X3_size : ∀ w ∈ u_ws RX3 TX3 9, w ∈ wsX3_size := by decide +kernel
theorem fl15_X3_size : Cond.fieldLink RX3 15 "LoopMemo$Pad" "size" "I" ∈ wsX3_size := by decide +kernel
set_option maxRecDepth 100000 in
set_option maxHeartbeats 4000000 in
theorem m_X3_size (D : va_G) (z zo : ClassId) (l : Launch) (a : Nat → Nat) (σ : Hp)  (r : Int32)  (hF : F_X3_size σ  = some r) : lm_CR D z zo l yX3_size wsX3_size 0 0 [.ref (a 0)] (pdW z a σ) (some (.int r)) := by
  refine lm_CR.of (by decide) rfl (Nat.le_of_ble_eq_true rfl) (own := RX3) rfl ?_
  intro p e s m_ args below meth c C hr hk
  show lm_St p l e ({ frames := 0, cells := 0, slots := 0, locals := 0 }) s m_ args below meth c D (fun _ => False) 1 0 0 (lm_EndR below (some (.int r)) args s) true (pdW z a σ) 0 [(0, .ref (a 0))] []
  rw [F_X3_size] at hF
  refine lm_aload_n C dX3_size_0 rfl 0 rfl rfl ?_
  refine lm_getf C (T := TX3) (N := 9) (v := .int (σ 0 1)) in3_X3_size 0 rfl rfl 1 (by decide) fl15_X3_size rfl rfl dX3_size_1 rfl ?_
  cases hF
  exact lm_iretR C hr hk rfl dX3_size_4
def F_X3_push (σ : Hp) (x1 : Int32) : Option (Int32 × (Hp)) :=
  lm_br (x1 < (33 : Int32))
   (some ((-1 : Int32), σ))
   (lm_br (x1 ≤ (126 : Int32))
    (lm_br ((σ 0 1) < 0)
     (some ((-3 : Int32), σ))
     (lm_br ((σ 0 1) < (60 : Int32))
      (lm_gi (σ 0 1) 60
      (lm_lt (lm_u σ 1 (((σ 0 1)).toNatClampNeg) x1) fun σ5 =>
      lm_lt (lm_u σ5 0 1 ((σ5 0 1) + (1 : Int32))) fun σ6 =>
      some ((σ6 0 1), σ6)))
      (some ((-3 : Int32), σ))))
    (some ((-1 : Int32), σ)))
theorem in3_X3_push : ∀ w ∈ u_ws RX3 TX3 9, w ∈ wsX3_push := by decide +kernel
theorem fl15_X3_push : Cond.fieldLink RX3 15 "LoopMemo$Pad" "size" "I" ∈ wsX3_push := by decide +kernel
theorem fl9_X3_push : Cond.fieldLink RX3 9 "LoopMemo$Pad" "codes" "[I" ∈ wsX3_push := by decide +kernel
set_option maxRecDepth 100000 in
set_option maxHeartbeats 4000000 in
theorem m_X3_push (D : va_G) (z zo : ClassId) (l : Launch) (a : Nat → Nat) (σ : Hp) (x1 : Int32) (r : Int32) (σ' : Hp) (hF : F_X3_push σ x1 = some (r, σ')) : lm_C D z zo l yX3_push wsX3_push 0 0 [.ref (a 0), .int x1] (pdW z a σ) (some (.int r)) (pdW z a σ') := by
  refine lm_C.of (by decide) rfl (Nat.le_of_ble_eq_true rfl) (own := RX3) rfl ?_
  intro p e s m_ args below meth c C hr hk hA
  show lm_St p l e ({ frames := 0, cells := 0, slots := 0, locals := 0 }) s m_ args below meth c D (va_A (pdW z a σ) s.heap.size) 2 0 0 (lm_End below D (some (.int r)) (pdW z a σ) (pdW z a σ') args s) false (pdW z a σ) 0 [(0, .ref (a 0)), (1, .int x1)] []
  rw [F_X3_push] at hF
  refine lm_iload_n C dX3_push_0 rfl 1 rfl rfl ?_
  refine lm_bipush C (v := (33 : Int32)) dX3_push_1 (by decide) rfl ?_
  refine lm_icmp_lt C (tgt := 12) dX3_push_3 (by decide) rfl (fun c1 => ?_) (fun c1 => ?_)
  · have hF := lm_brt hF c1
    refine lm_iconst C (v := (-1 : Int32)) dX3_push_12 (by decide) rfl ?_
    cases hF
    exact lm_iret C hr hk rfl rfl dX3_push_13
  · have hF := lm_brf hF c1
    refine lm_iload_n C dX3_push_6 rfl 1 rfl rfl ?_
    refine lm_bipush C (v := (126 : Int32)) dX3_push_7 (by decide) rfl ?_
    refine lm_icmp_le C (tgt := 14) dX3_push_9 (by decide) rfl (fun c2 => ?_) (fun c2 => ?_)
    · have hF := lm_brt hF c2
      refine lm_aload_n C dX3_push_14 rfl 0 rfl rfl ?_
      refine lm_getf C (T := TX3) (N := 9) (v := .int (σ 0 1)) in3_X3_push 0 rfl rfl 1 (by decide) fl15_X3_push rfl rfl dX3_push_15 rfl ?_
      refine lm_if_lt C (tgt := 33) dX3_push_18 (by decide) rfl (fun c3 => ?_) (fun c3 => ?_)
      · have hF := lm_brt hF c3
        refine lm_bipush C (v := (-3 : Int32)) dX3_push_33 (by decide) rfl ?_
        cases hF
        exact lm_iret C hr hk rfl rfl dX3_push_35
      · have hF := lm_brf hF c3
        refine lm_aload_n C dX3_push_21 rfl 0 rfl rfl ?_
        refine lm_getf C (T := TX3) (N := 9) (v := .int (σ 0 1)) in3_X3_push 0 rfl rfl 1 (by decide) fl15_X3_push rfl rfl dX3_push_22 rfl ?_
        refine lm_aload_n C dX3_push_25 rfl 0 rfl rfl ?_
        refine lm_getf C (T := TX3) (N := 9) (v := .ref (a 1)) in3_X3_push 0 rfl rfl 0 (by decide) fl9_X3_push rfl rfl dX3_push_26 rfl ?_
        refine lm_alen C (v := (60 : Int32)) 1 rfl rfl dX3_push_29 rfl ?_
        refine lm_icmp_lt C (tgt := 36) dX3_push_30 (by decide) rfl (fun c4 => ?_) (fun c4 => ?_)
        · have hF := lm_brt hF c4
          refine lm_aload_n C dX3_push_36 rfl 0 rfl rfl ?_
          refine lm_getf C (T := TX3) (N := 9) (v := .ref (a 1)) in3_X3_push 0 rfl rfl 0 (by decide) fl9_X3_push rfl rfl dX3_push_37 rfl ?_
          refine lm_aload_n C dX3_push_40 rfl 0 rfl rfl ?_
          refine lm_getf C (T := TX3) (N := 9) (v := .int (σ 0 1)) in3_X3_push 0 rfl rfl 1 (by decide) fl15_X3_push rfl rfl dX3_push_41 rfl ?_
          refine lm_iload_n C dX3_push_44 rfl 1 rfl rfl ?_
          obtain ⟨b7, hF⟩ := lm_gie hF
          obtain ⟨σ5, eσ5, hF⟩ := lm_lte hF
          refine lm_iast C (w' := (pdW z a σ5)) 1 rfl b7 dX3_push_45 (by rw [← eσ5]; rfl) rfl ?_
          refine lm_aload_n C dX3_push_46 rfl 0 rfl rfl ?_
          refine lm_dup C dX3_push_47 rfl rfl ?_
          refine lm_getf C (T := TX3) (N := 9) (v := .int (σ5 0 1)) in3_X3_push 0 rfl rfl 1 (by decide) fl15_X3_push rfl rfl dX3_push_48 rfl ?_
          refine lm_iconst C (v := (1 : Int32)) dX3_push_51 (by decide) rfl ?_
          refine lm_iadd C dX3_push_52 rfl rfl ?_
          obtain ⟨σ6, eσ6, hF⟩ := lm_lte hF
          refine lm_putf C (T := TX3) (N := 9) (ty := .int) (v := .int ((σ5 0 1) + (1 : Int32))) (w' := (pdW z a σ6)) in3_X3_push tyX3 tyX3_ok nmX3 0 rfl rfl 1 (by decide) fl15_X3_push rfl rfl rfl rfl rfl (Nat.le_of_ble_eq_true rfl) dX3_push_53 (by rw [← eσ6]; rfl) rfl ?_
          refine lm_aload_n C dX3_push_56 rfl 0 rfl rfl ?_
          refine lm_getf C (T := TX3) (N := 9) (v := .int (σ6 0 1)) in3_X3_push 0 rfl rfl 1 (by decide) fl15_X3_push rfl rfl dX3_push_57 rfl ?_
          cases hF
          exact lm_iret C hr hk rfl rfl dX3_push_60
        · have hF := lm_brf hF c4
          refine lm_bipush C (v := (-3 : Int32)) dX3_push_33 (by decide) rfl ?_
          cases hF
          exact lm_iret C hr hk rfl rfl dX3_push_35
    · have hF := lm_brf hF c2
      refine lm_iconst C (v := (-1 : Int32)) dX3_push_12 (by decide) rfl ?_
      cases hF
      exact lm_iret C hr hk rfl rfl dX3_push_13
def F_X3_empty (σ : Hp)  : Option (Int32 × (Hp)) :=
  lm_lt (lm_u σ 0 1 (0 : Int32)) fun σ1 =>
  some ((σ 0 1), σ1)
theorem in3_X3_empty : ∀ w ∈ u_ws RX3 TX3 9, w ∈ wsX3_empty := by decide +kernel
theorem fl15_X3_empty : Cond.fieldLink RX3 15 "LoopMemo$Pad" "size" "I" ∈ wsX3_empty := by decide +kernel
set_option maxRecDepth 100000 in
set_option maxHeartbeats 4000000 in
theorem m_X3_empty (D : va_G) (z zo : ClassId) (l : Launch) (a : Nat → Nat) (σ : Hp)  (r : Int32) (σ' : Hp) (hF : F_X3_empty σ  = some (r, σ')) : lm_C D z zo l yX3_empty wsX3_empty 0 0 [.ref (a 0)] (pdW z a σ) (some (.int r)) (pdW z a σ') := by
  refine lm_C.of (by decide) rfl (Nat.le_of_ble_eq_true rfl) (own := RX3) rfl ?_
  intro p e s m_ args below meth c C hr hk hA
  show lm_St p l e ({ frames := 0, cells := 0, slots := 0, locals := 0 }) s m_ args below meth c D (va_A (pdW z a σ) s.heap.size) 2 0 0 (lm_End below D (some (.int r)) (pdW z a σ) (pdW z a σ') args s) false (pdW z a σ) 0 [(0, .ref (a 0))] []
  rw [F_X3_empty] at hF
  refine lm_aload_n C dX3_empty_0 rfl 0 rfl rfl ?_
  refine lm_getf C (T := TX3) (N := 9) (v := .int (σ 0 1)) in3_X3_empty 0 rfl rfl 1 (by decide) fl15_X3_empty rfl rfl dX3_empty_1 rfl ?_
  refine lm_istore_n C (lv' := [(0, .ref (a 0)), (1, .int (σ 0 1))]) dX3_empty_4 rfl (by decide) rfl [1, 0] rfl rfl ?_
  refine lm_aload_n C dX3_empty_5 rfl 0 rfl rfl ?_
  refine lm_iconst C (v := (0 : Int32)) dX3_empty_6 (by decide) rfl ?_
  obtain ⟨σ1, eσ1, hF⟩ := lm_lte hF
  refine lm_putf C (T := TX3) (N := 9) (ty := .int) (v := .int (0 : Int32)) (w' := (pdW z a σ1)) in3_X3_empty tyX3 tyX3_ok nmX3 0 rfl rfl 1 (by decide) fl15_X3_empty rfl rfl rfl rfl rfl (Nat.le_of_ble_eq_true rfl) dX3_empty_7 (by rw [← eσ1]; rfl) rfl ?_
  refine lm_iload_n C dX3_empty_10 rfl 1 rfl rfl ?_
  cases hF
  exact lm_iret C hr hk rfl rfl dX3_empty_11
def F_X3_open (σ : Hp) (x1 : Int32) : Option (Hp) :=
  lm_gd (x1 = 0 ∨ x1 = 1)
  (lm_lt (lm_u σ 0 2 x1) fun σ1 =>
  lm_lt (lm_u σ1 0 3 (0 : Int32)) fun σ3 =>
  some σ3)
theorem in3_X3_open : ∀ w ∈ u_ws RX3 TX3 9, w ∈ wsX3_open := by decide +kernel
theorem fl30_X3_open : Cond.fieldLink RX3 30 "LoopMemo$Pad" "at" "I" ∈ wsX3_open := by decide +kernel
theorem fl33_X3_open : Cond.fieldLink RX3 33 "LoopMemo$Pad" "isReadAsDeeds" "Z" ∈ wsX3_open := by decide +kernel
set_option maxRecDepth 100000 in
set_option maxHeartbeats 4000000 in
theorem m_X3_open (D : va_G) (z zo : ClassId) (l : Launch) (a : Nat → Nat) (σ : Hp) (x1 : Int32)  (σ' : Hp) (hF : F_X3_open σ x1 = some σ') : lm_C D z zo l yX3_open wsX3_open 0 0 [.ref (a 0), .int x1] (pdW z a σ) none (pdW z a σ') := by
  refine lm_C.of (by decide) rfl (Nat.le_of_ble_eq_true rfl) (own := RX3) rfl ?_
  intro p e s m_ args below meth c C hr hk hA
  show lm_St p l e ({ frames := 0, cells := 0, slots := 0, locals := 0 }) s m_ args below meth c D (va_A (pdW z a σ) s.heap.size) 2 0 0 (lm_End below D none (pdW z a σ) (pdW z a σ') args s) false (pdW z a σ) 0 [(0, .ref (a 0)), (1, .int x1)] []
  rw [F_X3_open] at hF
  refine lm_aload_n C dX3_open_0 rfl 0 rfl rfl ?_
  refine lm_iload_n C dX3_open_1 rfl 1 rfl rfl ?_
  obtain ⟨c2, hF⟩ := lm_gde hF
  obtain ⟨σ1, eσ1, hF⟩ := lm_lte hF
  refine lm_putf C (T := TX3) (N := 9) (ty := .boolean) (v := .int x1) (w' := (pdW z a σ1)) in3_X3_open tyX3 tyX3_ok nmX3 0 rfl rfl 2 (by decide) fl33_X3_open rfl rfl rfl (lm_boolok c2) (lm_boolfit c2) (Nat.le_of_ble_eq_true rfl) dX3_open_2 (by rw [← eσ1]; rfl) rfl ?_
  refine lm_aload_n C dX3_open_5 rfl 0 rfl rfl ?_
  refine lm_iconst C (v := (0 : Int32)) dX3_open_6 (by decide) rfl ?_
  obtain ⟨σ3, eσ3, hF⟩ := lm_lte hF
  refine lm_putf C (T := TX3) (N := 9) (ty := .int) (v := .int (0 : Int32)) (w' := (pdW z a σ3)) in3_X3_open tyX3 tyX3_ok nmX3 0 rfl rfl 3 (by decide) fl30_X3_open rfl rfl rfl rfl rfl (Nat.le_of_ble_eq_true rfl) dX3_open_7 (by rw [← eσ3]; rfl) rfl ?_
  cases hF
  exact lm_vret C hr hk rfl rfl dX3_open_10
def F_X3_code (σ : Hp) (x1 : Int32) : Option Int32 :=
  lm_br (x1 < 0)
   (some (0 : Int32))
   (lm_br ((σ 0 1) ≤ x1)
    (some (0 : Int32))
    (lm_br ((60 : Int32) ≤ x1)
     (some (0 : Int32))
     (lm_gi x1 60
     (some (σ 1 x1.toNatClampNeg)))))
theorem in3_X3_code : ∀ w ∈ u_ws RX3 TX3 9, w ∈ wsX3_code := by decide +kernel
theorem fl15_X3_code : Cond.fieldLink RX3 15 "LoopMemo$Pad" "size" "I" ∈ wsX3_code := by decide +kernel
theorem fl9_X3_code : Cond.fieldLink RX3 9 "LoopMemo$Pad" "codes" "[I" ∈ wsX3_code := by decide +kernel
set_option maxRecDepth 100000 in
set_option maxHeartbeats 4000000 in
theorem m_X3_code (D : va_G) (z zo : ClassId) (l : Launch) (a : Nat → Nat) (σ : Hp) (x1 : Int32) (r : Int32)  (hF : F_X3_code σ x1 = some r) : lm_CR D z zo l yX3_code wsX3_code 0 0 [.ref (a 0), .int x1] (pdW z a σ) (some (.int r)) := by
  refine lm_CR.of (by decide) rfl (Nat.le_of_ble_eq_true rfl) (own := RX3) rfl ?_
  intro p e s m_ args below meth c C hr hk
  show lm_St p l e ({ frames := 0, cells := 0, slots := 0, locals := 0 }) s m_ args below meth c D (fun _ => False) 2 0 0 (lm_EndR below (some (.int r)) args s) true (pdW z a σ) 0 [(0, .ref (a 0)), (1, .int x1)] []
  rw [F_X3_code] at hF
  refine lm_iload_n C dX3_code_0 rfl 1 rfl rfl ?_
  refine lm_if_lt C (tgt := 30) dX3_code_1 (by decide) rfl (fun c1 => ?_) (fun c1 => ?_)
  · have hF := lm_brt hF c1
    refine lm_iconst C (v := (0 : Int32)) dX3_code_30 (by decide) rfl ?_
    cases hF
    exact lm_iretR C hr hk rfl dX3_code_31
  · have hF := lm_brf hF c1
    refine lm_iload_n C dX3_code_4 rfl 1 rfl rfl ?_
    refine lm_aload_n C dX3_code_5 rfl 0 rfl rfl ?_
    refine lm_getf C (T := TX3) (N := 9) (v := .int (σ 0 1)) in3_X3_code 0 rfl rfl 1 (by decide) fl15_X3_code rfl rfl dX3_code_6 rfl ?_
    refine lm_icmp_ge C (tgt := 30) dX3_code_9 (by decide) rfl (fun c2 => ?_) (fun c2 => ?_)
    · have hF := lm_brt hF c2
      refine lm_iconst C (v := (0 : Int32)) dX3_code_30 (by decide) rfl ?_
      cases hF
      exact lm_iretR C hr hk rfl dX3_code_31
    · have hF := lm_brf hF c2
      refine lm_iload_n C dX3_code_12 rfl 1 rfl rfl ?_
      refine lm_aload_n C dX3_code_13 rfl 0 rfl rfl ?_
      refine lm_getf C (T := TX3) (N := 9) (v := .ref (a 1)) in3_X3_code 0 rfl rfl 0 (by decide) fl9_X3_code rfl rfl dX3_code_14 rfl ?_
      refine lm_alen C (v := (60 : Int32)) 1 rfl rfl dX3_code_17 rfl ?_
      refine lm_icmp_ge C (tgt := 30) dX3_code_18 (by decide) rfl (fun c3 => ?_) (fun c3 => ?_)
      · have hF := lm_brt hF c3
        refine lm_iconst C (v := (0 : Int32)) dX3_code_30 (by decide) rfl ?_
        cases hF
        exact lm_iretR C hr hk rfl dX3_code_31
      · have hF := lm_brf hF c3
        refine lm_aload_n C dX3_code_21 rfl 0 rfl rfl ?_
        refine lm_getf C (T := TX3) (N := 9) (v := .ref (a 1)) in3_X3_code 0 rfl rfl 0 (by decide) fl9_X3_code rfl rfl dX3_code_22 rfl ?_
        refine lm_iload_n C dX3_code_25 rfl 1 rfl rfl ?_
        obtain ⟨b4, hF⟩ := lm_gie hF
        refine lm_iald C (v := (σ 1 x1.toNatClampNeg)) 1 rfl b4 rfl dX3_code_26 rfl ?_
        refine lm_goto C (tgt := 31) dX3_code_27 (by decide) ?_
        cases hF
        exact lm_iretR C hr hk rfl dX3_code_31
def F_X3_takes (σ : Hp) (x1 : Int32) : Option (Int32 × (Hp)) :=
  lm_bd (F_X3_code σ (σ 0 3)) fun r1 =>
  lm_br (r1 = x1)
   (lm_lt (lm_u σ 0 3 ((σ 0 3) + (1 : Int32))) fun σ3 =>
   some ((1 : Int32), σ3))
   (some ((0 : Int32), σ))
theorem in3_X3_takes : ∀ w ∈ u_ws RX3 TX3 9, w ∈ wsX3_takes := by decide +kernel
theorem fl30_X3_takes : Cond.fieldLink RX3 30 "LoopMemo$Pad" "at" "I" ∈ wsX3_takes := by decide +kernel
set_option maxRecDepth 100000 in
set_option maxHeartbeats 4000000 in
theorem m_X3_takes (D : va_G) (z zo : ClassId) (l : Launch) (a : Nat → Nat) (σ : Hp) (x1 : Int32) (r : Int32) (σ' : Hp) (hF : F_X3_takes σ x1 = some (r, σ')) : lm_C D z zo l yX3_takes wsX3_takes 1 21 [.ref (a 0), .int x1] (pdW z a σ) (some (.int r)) (pdW z a σ') := by
  refine lm_C.of (by decide) rfl (Nat.le_of_ble_eq_true rfl) (own := RX3) rfl ?_
  intro p e s m_ args below meth c C hr hk hA
  show lm_St p l e ({ frames := 1, cells := 0, slots := 0, locals := 21 }) s m_ args below meth c D (va_A (pdW z a σ) s.heap.size) 2 0 0 (lm_End below D (some (.int r)) (pdW z a σ) (pdW z a σ') args s) false (pdW z a σ) 0 [(0, .ref (a 0)), (1, .int x1)] []
  rw [F_X3_takes] at hF
  refine lm_aload_n C dX3_takes_0 rfl 0 rfl rfl ?_
  refine lm_aload_n C dX3_takes_1 rfl 0 rfl rfl ?_
  refine lm_getf C (T := TX3) (N := 9) (v := .int (σ 0 3)) in3_X3_takes 0 rfl rfl 3 (by decide) fl30_X3_takes rfl rfl dX3_takes_2 rfl ?_
  obtain ⟨r1, qr1, hF⟩ := lm_bde hF
  refine lm_callVR C (n := 1) (ci := 3) (m_X3_code D z zo l a σ (σ 0 3) r1 qr1) gX3_takes_X3_code rfl (by decide +kernel) ⟨Nat.le_of_ble_eq_true rfl, Nat.le_of_ble_eq_true rfl⟩ ⟨Nat.le_of_ble_eq_true rfl, Nat.le_of_ble_eq_true rfl⟩ 0 rfl rfl (fun _ h => h) rfl rfl (Nat.le_of_ble_eq_true rfl) dX3_takes_5 (st' := [.int r1]) rfl rfl ?_
  refine lm_iload_n C dX3_takes_8 rfl 1 rfl rfl ?_
  refine lm_icmp_eq C (tgt := 14) dX3_takes_9 (by decide) rfl (fun c2 => ?_) (fun c2 => ?_)
  · have hF := lm_brt hF c2
    refine lm_aload_n C dX3_takes_14 rfl 0 rfl rfl ?_
    refine lm_dup C dX3_takes_15 rfl rfl ?_
    refine lm_getf C (T := TX3) (N := 9) (v := .int (σ 0 3)) in3_X3_takes 0 rfl rfl 3 (by decide) fl30_X3_takes rfl rfl dX3_takes_16 rfl ?_
    refine lm_iconst C (v := (1 : Int32)) dX3_takes_19 (by decide) rfl ?_
    refine lm_iadd C dX3_takes_20 rfl rfl ?_
    obtain ⟨σ3, eσ3, hF⟩ := lm_lte hF
    refine lm_putf C (T := TX3) (N := 9) (ty := .int) (v := .int ((σ 0 3) + (1 : Int32))) (w' := (pdW z a σ3)) in3_X3_takes tyX3 tyX3_ok nmX3 0 rfl rfl 3 (by decide) fl30_X3_takes rfl rfl rfl rfl rfl (Nat.le_of_ble_eq_true rfl) dX3_takes_21 (by rw [← eσ3]; rfl) rfl ?_
    refine lm_iconst C (v := (1 : Int32)) dX3_takes_24 (by decide) rfl ?_
    cases hF
    exact lm_zret C hr hk rfl rfl rfl dX3_takes_25
  · have hF := lm_brf hF c2
    refine lm_iconst C (v := (0 : Int32)) dX3_takes_12 (by decide) rfl ?_
    cases hF
    exact lm_zret C hr hk rfl rfl rfl dX3_takes_13
def F_X3_readNumber (σ : Hp) (x1 x2 : Int32) : Option (Int32 × (Hp)) :=
  lm_bd (F_X3_code σ (σ 0 3)) fun r1 =>
  lm_br ((r1 - (48 : Int32)) < x1)
   (some ((-4 : Int32), σ))
   (lm_br ((r1 - (48 : Int32)) ≤ (9 : Int32))
    (lm_lt (lm_u σ 0 3 ((σ 0 3) + (1 : Int32))) fun σ4 =>
    lm_bd (F_X3_code σ4 (σ4 0 3)) fun r5 =>
    lm_br ((r1 - (48 : Int32)) = 0)
     (some ((r1 - (48 : Int32)), σ4))
     (lm_br ((r5 - (48 : Int32)) < 0)
      (some ((r1 - (48 : Int32)), σ4))
      (lm_br ((9 : Int32) < (r5 - (48 : Int32)))
       (some ((r1 - (48 : Int32)), σ4))
       (lm_br ((((10 : Int32) * (r1 - (48 : Int32))) + (r5 - (48 : Int32))) ≤ x2)
        (lm_lt (lm_u σ4 0 3 ((σ4 0 3) + (1 : Int32))) fun σ10 =>
        some ((((10 : Int32) * (r1 - (48 : Int32))) + (r5 - (48 : Int32))), σ10))
        (some ((r1 - (48 : Int32)), σ4))))))
    (some ((-4 : Int32), σ)))
theorem in3_X3_readNumber : ∀ w ∈ u_ws RX3 TX3 9, w ∈ wsX3_readNumber := by decide +kernel
theorem fl30_X3_readNumber : Cond.fieldLink RX3 30 "LoopMemo$Pad" "at" "I" ∈ wsX3_readNumber := by decide +kernel
set_option maxRecDepth 100000 in
set_option maxHeartbeats 4000000 in
theorem m_X3_readNumber (D : va_G) (z zo : ClassId) (l : Launch) (a : Nat → Nat) (σ : Hp) (x1 x2 : Int32) (r : Int32) (σ' : Hp) (hF : F_X3_readNumber σ x1 x2 = some (r, σ')) : lm_C D z zo l yX3_readNumber wsX3_readNumber 1 21 [.ref (a 0), .int x1, .int x2] (pdW z a σ) (some (.int r)) (pdW z a σ') := by
  refine lm_C.of (by decide) rfl (Nat.le_of_ble_eq_true rfl) (own := RX3) rfl ?_
  intro p e s m_ args below meth c C hr hk hA
  show lm_St p l e ({ frames := 1, cells := 0, slots := 0, locals := 21 }) s m_ args below meth c D (va_A (pdW z a σ) s.heap.size) 5 0 0 (lm_End below D (some (.int r)) (pdW z a σ) (pdW z a σ') args s) false (pdW z a σ) 0 [(0, .ref (a 0)), (1, .int x1), (2, .int x2)] []
  rw [F_X3_readNumber] at hF
  refine lm_aload_n C dX3_readNumber_0 rfl 0 rfl rfl ?_
  refine lm_aload_n C dX3_readNumber_1 rfl 0 rfl rfl ?_
  refine lm_getf C (T := TX3) (N := 9) (v := .int (σ 0 3)) in3_X3_readNumber 0 rfl rfl 3 (by decide) fl30_X3_readNumber rfl rfl dX3_readNumber_2 rfl ?_
  obtain ⟨r1, qr1, hF⟩ := lm_bde hF
  refine lm_callVR C (n := 1) (ci := 3) (m_X3_code D z zo l a σ (σ 0 3) r1 qr1) gX3_readNumber_X3_code rfl (by decide +kernel) ⟨Nat.le_of_ble_eq_true rfl, Nat.le_of_ble_eq_true rfl⟩ ⟨Nat.le_of_ble_eq_true rfl, Nat.le_of_ble_eq_true rfl⟩ 0 rfl rfl (fun _ h => h) rfl rfl (Nat.le_of_ble_eq_true rfl) dX3_readNumber_5 (st' := [.int r1]) rfl rfl ?_
  refine lm_bipush C (v := (48 : Int32)) dX3_readNumber_8 (by decide) rfl ?_
  refine lm_isub C dX3_readNumber_10 rfl rfl ?_
  refine lm_istore_n C (lv' := [(0, .ref (a 0)), (1, .int x1), (2, .int x2), (3, .int (r1 - (48 : Int32)))]) dX3_readNumber_11 rfl (by decide) rfl [1, 2, 3, 0] rfl rfl ?_
  refine lm_iload_n C dX3_readNumber_12 rfl 3 rfl rfl ?_
  refine lm_iload_n C dX3_readNumber_13 rfl 1 rfl rfl ?_
  refine lm_icmp_lt C (tgt := 23) dX3_readNumber_14 (by decide) rfl (fun c2 => ?_) (fun c2 => ?_)
  · have hF := lm_brt hF c2
    refine lm_bipush C (v := (-4 : Int32)) dX3_readNumber_23 (by decide) rfl ?_
    cases hF
    exact lm_iret C hr hk rfl rfl dX3_readNumber_25
  · have hF := lm_brf hF c2
    refine lm_iload_n C dX3_readNumber_17 rfl 3 rfl rfl ?_
    refine lm_bipush C (v := (9 : Int32)) dX3_readNumber_18 (by decide) rfl ?_
    refine lm_icmp_le C (tgt := 26) dX3_readNumber_20 (by decide) rfl (fun c3 => ?_) (fun c3 => ?_)
    · have hF := lm_brt hF c3
      refine lm_aload_n C dX3_readNumber_26 rfl 0 rfl rfl ?_
      refine lm_dup C dX3_readNumber_27 rfl rfl ?_
      refine lm_getf C (T := TX3) (N := 9) (v := .int (σ 0 3)) in3_X3_readNumber 0 rfl rfl 3 (by decide) fl30_X3_readNumber rfl rfl dX3_readNumber_28 rfl ?_
      refine lm_iconst C (v := (1 : Int32)) dX3_readNumber_31 (by decide) rfl ?_
      refine lm_iadd C dX3_readNumber_32 rfl rfl ?_
      obtain ⟨σ4, eσ4, hF⟩ := lm_lte hF
      refine lm_putf C (T := TX3) (N := 9) (ty := .int) (v := .int ((σ 0 3) + (1 : Int32))) (w' := (pdW z a σ4)) in3_X3_readNumber tyX3 tyX3_ok nmX3 0 rfl rfl 3 (by decide) fl30_X3_readNumber rfl rfl rfl rfl rfl (Nat.le_of_ble_eq_true rfl) dX3_readNumber_33 (by rw [← eσ4]; rfl) rfl ?_
      refine lm_aload_n C dX3_readNumber_36 rfl 0 rfl rfl ?_
      refine lm_aload_n C dX3_readNumber_37 rfl 0 rfl rfl ?_
      refine lm_getf C (T := TX3) (N := 9) (v := .int (σ4 0 3)) in3_X3_readNumber 0 rfl rfl 3 (by decide) fl30_X3_readNumber rfl rfl dX3_readNumber_38 rfl ?_
      obtain ⟨r5, qr5, hF⟩ := lm_bde hF
      refine lm_callVR C (n := 1) (ci := 3) (m_X3_code D z zo l a σ4 (σ4 0 3) r5 qr5) gX3_readNumber_X3_code rfl (by decide +kernel) ⟨Nat.le_of_ble_eq_true rfl, Nat.le_of_ble_eq_true rfl⟩ ⟨Nat.le_of_ble_eq_true rfl, Nat.le_of_ble_eq_true rfl⟩ 0 rfl rfl (fun _ h => h) rfl rfl (Nat.le_of_ble_eq_true rfl) dX3_readNumber_41 (st' := [.int r5]) rfl rfl ?_
      refine lm_bipush C (v := (48 : Int32)) dX3_readNumber_44 (by decide) rfl ?_
      refine lm_isub C dX3_readNumber_46 rfl rfl ?_
      refine lm_istore C (lv' := [(0, .ref (a 0)), (1, .int x1), (2, .int x2), (3, .int (r1 - (48 : Int32))), (4, .int (r5 - (48 : Int32)))]) dX3_readNumber_47 (by decide) rfl [1, 2, 3, 4, 0] rfl rfl ?_
      refine lm_iload_n C dX3_readNumber_49 rfl 3 rfl rfl ?_
      refine lm_if_eq C (tgt := 76) dX3_readNumber_50 (by decide) rfl (fun c6 => ?_) (fun c6 => ?_)
      · have hF := lm_brt hF c6
        refine lm_iload_n C dX3_readNumber_76 rfl 3 rfl rfl ?_
        cases hF
        exact lm_iret C hr hk rfl rfl dX3_readNumber_77
      · have hF := lm_brf hF c6
        refine lm_iload C dX3_readNumber_53 4 rfl rfl ?_
        refine lm_if_lt C (tgt := 76) dX3_readNumber_55 (by decide) rfl (fun c7 => ?_) (fun c7 => ?_)
        · have hF := lm_brt hF c7
          refine lm_iload_n C dX3_readNumber_76 rfl 3 rfl rfl ?_
          cases hF
          exact lm_iret C hr hk rfl rfl dX3_readNumber_77
        · have hF := lm_brf hF c7
          refine lm_iload C dX3_readNumber_58 4 rfl rfl ?_
          refine lm_bipush C (v := (9 : Int32)) dX3_readNumber_60 (by decide) rfl ?_
          refine lm_icmp_gt C (tgt := 76) dX3_readNumber_62 (by decide) rfl (fun c8 => ?_) (fun c8 => ?_)
          · have hF := lm_brt hF c8
            refine lm_iload_n C dX3_readNumber_76 rfl 3 rfl rfl ?_
            cases hF
            exact lm_iret C hr hk rfl rfl dX3_readNumber_77
          · have hF := lm_brf hF c8
            refine lm_bipush C (v := (10 : Int32)) dX3_readNumber_65 (by decide) rfl ?_
            refine lm_iload_n C dX3_readNumber_67 rfl 3 rfl rfl ?_
            refine lm_imul C dX3_readNumber_68 rfl rfl ?_
            refine lm_iload C dX3_readNumber_69 4 rfl rfl ?_
            refine lm_iadd C dX3_readNumber_71 rfl rfl ?_
            refine lm_iload_n C dX3_readNumber_72 rfl 2 rfl rfl ?_
            refine lm_icmp_le C (tgt := 78) dX3_readNumber_73 (by decide) rfl (fun c9 => ?_) (fun c9 => ?_)
            · have hF := lm_brt hF c9
              refine lm_aload_n C dX3_readNumber_78 rfl 0 rfl rfl ?_
              refine lm_dup C dX3_readNumber_79 rfl rfl ?_
              refine lm_getf C (T := TX3) (N := 9) (v := .int (σ4 0 3)) in3_X3_readNumber 0 rfl rfl 3 (by decide) fl30_X3_readNumber rfl rfl dX3_readNumber_80 rfl ?_
              refine lm_iconst C (v := (1 : Int32)) dX3_readNumber_83 (by decide) rfl ?_
              refine lm_iadd C dX3_readNumber_84 rfl rfl ?_
              obtain ⟨σ10, eσ10, hF⟩ := lm_lte hF
              refine lm_putf C (T := TX3) (N := 9) (ty := .int) (v := .int ((σ4 0 3) + (1 : Int32))) (w' := (pdW z a σ10)) in3_X3_readNumber tyX3 tyX3_ok nmX3 0 rfl rfl 3 (by decide) fl30_X3_readNumber rfl rfl rfl rfl rfl (Nat.le_of_ble_eq_true rfl) dX3_readNumber_85 (by rw [← eσ10]; rfl) rfl ?_
              refine lm_bipush C (v := (10 : Int32)) dX3_readNumber_88 (by decide) rfl ?_
              refine lm_iload_n C dX3_readNumber_90 rfl 3 rfl rfl ?_
              refine lm_imul C dX3_readNumber_91 rfl rfl ?_
              refine lm_iload C dX3_readNumber_92 4 rfl rfl ?_
              refine lm_iadd C dX3_readNumber_94 rfl rfl ?_
              cases hF
              exact lm_iret C hr hk rfl rfl dX3_readNumber_95
            · have hF := lm_brf hF c9
              refine lm_iload_n C dX3_readNumber_76 rfl 3 rfl rfl ?_
              cases hF
              exact lm_iret C hr hk rfl rfl dX3_readNumber_77
    · have hF := lm_brf hF c3
      refine lm_bipush C (v := (-4 : Int32)) dX3_readNumber_23 (by decide) rfl ?_
      cases hF
      exact lm_iret C hr hk rfl rfl dX3_readNumber_25
def F_X3_readRow (σ : Hp)  : Option (Int32 × (Hp)) :=
  lm_b2 (F_X3_readNumber σ (0 : Int32) (9 : Int32)) fun r2 σ1 =>
  lm_lt (lm_u σ1 0 7 r2) fun σ3 =>
  lm_br ((σ3 0 7) < 0)
   (some ((0 : Int32), σ3))
   (lm_b2 (F_X3_takes σ3 (58 : Int32)) fun r6 σ5 =>
   lm_br (¬ r6 = 0)
    (lm_b2 (F_X3_readNumber σ5 (0 : Int32) (99 : Int32)) fun r9 σ8 =>
    lm_lt (lm_u σ8 0 8 r9) fun σ10 =>
    lm_br ((σ10 0 8) < 0)
     (some ((0 : Int32), σ10))
     (some ((1 : Int32), σ10)))
    (some ((0 : Int32), σ5)))
theorem in3_X3_readRow : ∀ w ∈ u_ws RX3 TX3 9, w ∈ wsX3_readRow := by decide +kernel
theorem fl53_X3_readRow : Cond.fieldLink RX3 53 "LoopMemo$Pad" "first" "I" ∈ wsX3_readRow := by decide +kernel
theorem fl56_X3_readRow : Cond.fieldLink RX3 56 "LoopMemo$Pad" "second" "I" ∈ wsX3_readRow := by decide +kernel
set_option maxRecDepth 100000 in
set_option maxHeartbeats 4000000 in
theorem m_X3_readRow (D : va_G) (z zo : ClassId) (l : Launch) (a : Nat → Nat) (σ : Hp)  (r : Int32) (σ' : Hp) (hF : F_X3_readRow σ  = some (r, σ')) : lm_C D z zo l yX3_readRow wsX3_readRow 2 45 [.ref (a 0)] (pdW z a σ) (some (.int r)) (pdW z a σ') := by
  refine lm_C.of (by decide) rfl (Nat.le_of_ble_eq_true rfl) (own := RX3) rfl ?_
  intro p e s m_ args below meth c C hr hk hA
  show lm_St p l e ({ frames := 2, cells := 0, slots := 0, locals := 45 }) s m_ args below meth c D (va_A (pdW z a σ) s.heap.size) 1 0 0 (lm_End below D (some (.int r)) (pdW z a σ) (pdW z a σ') args s) false (pdW z a σ) 0 [(0, .ref (a 0))] []
  rw [F_X3_readRow] at hF
  refine lm_aload_n C dX3_readRow_0 rfl 0 rfl rfl ?_
  refine lm_aload_n C dX3_readRow_1 rfl 0 rfl rfl ?_
  refine lm_iconst C (v := (0 : Int32)) dX3_readRow_2 (by decide) rfl ?_
  refine lm_bipush C (v := (9 : Int32)) dX3_readRow_3 (by decide) rfl ?_
  obtain ⟨r2, σ1, qσ1, hF⟩ := lm_b2e hF
  refine lm_callV C (n := 2) (ci := 3) (w' := (pdW z a σ1)) hA (m_X3_readNumber D z zo l a σ (0 : Int32) (9 : Int32) r2 σ1 qσ1) gX3_readRow_X3_readNumber rfl (by decide +kernel) ⟨Nat.le_of_ble_eq_true rfl, Nat.le_of_ble_eq_true rfl⟩ ⟨Nat.le_of_ble_eq_true rfl, Nat.le_of_ble_eq_true rfl⟩ 0 rfl rfl lm_pr lm_pr' rfl rfl (Nat.le_of_ble_eq_true rfl) dX3_readRow_5 (st' := [.int r2, .ref (a 0)]) rfl rfl ?_
  obtain ⟨σ3, eσ3, hF⟩ := lm_lte hF
  refine lm_putf C (T := TX3) (N := 9) (ty := .int) (v := .int r2) (w' := (pdW z a σ3)) in3_X3_readRow tyX3 tyX3_ok nmX3 0 rfl rfl 7 (by decide) fl53_X3_readRow rfl rfl rfl rfl rfl (Nat.le_of_ble_eq_true rfl) dX3_readRow_8 (by rw [← eσ3]; rfl) rfl ?_
  refine lm_aload_n C dX3_readRow_11 rfl 0 rfl rfl ?_
  refine lm_getf C (T := TX3) (N := 9) (v := .int (σ3 0 7)) in3_X3_readRow 0 rfl rfl 7 (by decide) fl53_X3_readRow rfl rfl dX3_readRow_12 rfl ?_
  refine lm_if_lt C (tgt := 27) dX3_readRow_15 (by decide) rfl (fun c4 => ?_) (fun c4 => ?_)
  · have hF := lm_brt hF c4
    refine lm_iconst C (v := (0 : Int32)) dX3_readRow_27 (by decide) rfl ?_
    cases hF
    exact lm_zret C hr hk rfl rfl rfl dX3_readRow_28
  · have hF := lm_brf hF c4
    refine lm_aload_n C dX3_readRow_18 rfl 0 rfl rfl ?_
    refine lm_bipush C (v := (58 : Int32)) dX3_readRow_19 (by decide) rfl ?_
    obtain ⟨r6, σ5, qσ5, hF⟩ := lm_b2e hF
    refine lm_callV C (n := 1) (ci := 3) (w' := (pdW z a σ5)) hA (m_X3_takes D z zo l a σ3 (58 : Int32) r6 σ5 qσ5) gX3_readRow_X3_takes rfl (by decide +kernel) ⟨Nat.le_of_ble_eq_true rfl, Nat.le_of_ble_eq_true rfl⟩ ⟨Nat.le_of_ble_eq_true rfl, Nat.le_of_ble_eq_true rfl⟩ 0 rfl rfl lm_pr lm_pr' rfl rfl (Nat.le_of_ble_eq_true rfl) dX3_readRow_21 (st' := [.int r6]) rfl rfl ?_
    refine lm_if_ne C (tgt := 29) dX3_readRow_24 (by decide) rfl (fun c7 => ?_) (fun c7 => ?_)
    · have hF := lm_brt hF c7
      refine lm_aload_n C dX3_readRow_29 rfl 0 rfl rfl ?_
      refine lm_aload_n C dX3_readRow_30 rfl 0 rfl rfl ?_
      refine lm_iconst C (v := (0 : Int32)) dX3_readRow_31 (by decide) rfl ?_
      refine lm_bipush C (v := (99 : Int32)) dX3_readRow_32 (by decide) rfl ?_
      obtain ⟨r9, σ8, qσ8, hF⟩ := lm_b2e hF
      refine lm_callV C (n := 2) (ci := 3) (w' := (pdW z a σ8)) hA (m_X3_readNumber D z zo l a σ5 (0 : Int32) (99 : Int32) r9 σ8 qσ8) gX3_readRow_X3_readNumber rfl (by decide +kernel) ⟨Nat.le_of_ble_eq_true rfl, Nat.le_of_ble_eq_true rfl⟩ ⟨Nat.le_of_ble_eq_true rfl, Nat.le_of_ble_eq_true rfl⟩ 0 rfl rfl lm_pr lm_pr' rfl rfl (Nat.le_of_ble_eq_true rfl) dX3_readRow_34 (st' := [.int r9, .ref (a 0)]) rfl rfl ?_
      obtain ⟨σ10, eσ10, hF⟩ := lm_lte hF
      refine lm_putf C (T := TX3) (N := 9) (ty := .int) (v := .int r9) (w' := (pdW z a σ10)) in3_X3_readRow tyX3 tyX3_ok nmX3 0 rfl rfl 8 (by decide) fl56_X3_readRow rfl rfl rfl rfl rfl (Nat.le_of_ble_eq_true rfl) dX3_readRow_37 (by rw [← eσ10]; rfl) rfl ?_
      refine lm_aload_n C dX3_readRow_40 rfl 0 rfl rfl ?_
      refine lm_getf C (T := TX3) (N := 9) (v := .int (σ10 0 8)) in3_X3_readRow 0 rfl rfl 8 (by decide) fl56_X3_readRow rfl rfl dX3_readRow_41 rfl ?_
      refine lm_if_lt C (tgt := 51) dX3_readRow_44 (by decide) rfl (fun c11 => ?_) (fun c11 => ?_)
      · have hF := lm_brt hF c11
        refine lm_iconst C (v := (0 : Int32)) dX3_readRow_51 (by decide) rfl ?_
        cases hF
        exact lm_zret C hr hk rfl rfl rfl dX3_readRow_52
      · have hF := lm_brf hF c11
        refine lm_iconst C (v := (1 : Int32)) dX3_readRow_47 (by decide) rfl ?_
        refine lm_goto C (tgt := 52) dX3_readRow_48 (by decide) ?_
        cases hF
        exact lm_zret C hr hk rfl rfl rfl dX3_readRow_52
    · have hF := lm_brf hF c7
      refine lm_iconst C (v := (0 : Int32)) dX3_readRow_27 (by decide) rfl ?_
      cases hF
      exact lm_zret C hr hk rfl rfl rfl dX3_readRow_28
def F_X3_readDeed (σ : Hp)  : Option (Int32 × (Hp)) :=
  lm_bd (F_X3_code σ (σ 0 3)) fun r1 =>
  lm_lt (lm_u σ 0 6 r1) fun σ2 =>
  lm_lt (lm_u σ2 0 3 ((σ2 0 3) + (1 : Int32))) fun σ3 =>
  lm_br ((σ3 0 6) = (43 : Int32))
   (lm_b2 (F_X3_readRow σ3) fun r6 σ5 =>
   lm_gd (r6 = 0 ∨ r6 = 1) (some (r6, σ5)))
   (lm_br ((σ3 0 6) = (45 : Int32))
    (lm_b2 (F_X3_readNumber σ3 (0 : Int32) (19 : Int32)) fun r10 σ9 =>
    lm_lt (lm_u σ9 0 7 r10) fun σ11 =>
    lm_br ((σ11 0 7) < 0)
     (some ((0 : Int32), σ11))
     (some ((1 : Int32), σ11)))
    (lm_br ((σ3 0 6) = (114 : Int32))
     (some ((1 : Int32), σ3))
     (lm_br ((σ3 0 6) = (115 : Int32))
      (lm_b2 (F_X3_readNumber σ3 (1 : Int32) (20 : Int32)) fun r16 σ15 =>
      lm_lt (lm_u σ15 0 7 r16) fun σ17 =>
      lm_br ((σ17 0 7) < 0)
       (some ((0 : Int32), σ17))
       (some ((1 : Int32), σ17)))
      (lm_lt (lm_u σ3 0 3 (σ3 0 5)) fun σ19 =>
      some ((0 : Int32), σ19)))))
theorem in3_X3_readDeed : ∀ w ∈ u_ws RX3 TX3 9, w ∈ wsX3_readDeed := by decide +kernel
theorem fl30_X3_readDeed : Cond.fieldLink RX3 30 "LoopMemo$Pad" "at" "I" ∈ wsX3_readDeed := by decide +kernel
theorem fl50_X3_readDeed : Cond.fieldLink RX3 50 "LoopMemo$Pad" "sign" "I" ∈ wsX3_readDeed := by decide +kernel
theorem fl53_X3_readDeed : Cond.fieldLink RX3 53 "LoopMemo$Pad" "first" "I" ∈ wsX3_readDeed := by decide +kernel
theorem fl41_X3_readDeed : Cond.fieldLink RX3 41 "LoopMemo$Pad" "start" "I" ∈ wsX3_readDeed := by decide +kernel
set_option maxRecDepth 100000 in
set_option maxHeartbeats 4000000 in
theorem m_X3_readDeed (D : va_G) (z zo : ClassId) (l : Launch) (a : Nat → Nat) (σ : Hp)  (r : Int32) (σ' : Hp) (hF : F_X3_readDeed σ  = some (r, σ')) : lm_C D z zo l yX3_readDeed wsX3_readDeed 3 65 [.ref (a 0)] (pdW z a σ) (some (.int r)) (pdW z a σ') := by
  refine lm_C.of (by decide) rfl (Nat.le_of_ble_eq_true rfl) (own := RX3) rfl ?_
  intro p e s m_ args below meth c C hr hk hA
  show lm_St p l e ({ frames := 3, cells := 0, slots := 0, locals := 65 }) s m_ args below meth c D (va_A (pdW z a σ) s.heap.size) 1 0 0 (lm_End below D (some (.int r)) (pdW z a σ) (pdW z a σ') args s) false (pdW z a σ) 0 [(0, .ref (a 0))] []
  rw [F_X3_readDeed] at hF
  refine lm_aload_n C dX3_readDeed_0 rfl 0 rfl rfl ?_
  refine lm_aload_n C dX3_readDeed_1 rfl 0 rfl rfl ?_
  refine lm_aload_n C dX3_readDeed_2 rfl 0 rfl rfl ?_
  refine lm_getf C (T := TX3) (N := 9) (v := .int (σ 0 3)) in3_X3_readDeed 0 rfl rfl 3 (by decide) fl30_X3_readDeed rfl rfl dX3_readDeed_3 rfl ?_
  obtain ⟨r1, qr1, hF⟩ := lm_bde hF
  refine lm_callVR C (n := 1) (ci := 3) (m_X3_code D z zo l a σ (σ 0 3) r1 qr1) gX3_readDeed_X3_code rfl (by decide +kernel) ⟨Nat.le_of_ble_eq_true rfl, Nat.le_of_ble_eq_true rfl⟩ ⟨Nat.le_of_ble_eq_true rfl, Nat.le_of_ble_eq_true rfl⟩ 0 rfl rfl (fun _ h => h) rfl rfl (Nat.le_of_ble_eq_true rfl) dX3_readDeed_6 (st' := [.int r1, .ref (a 0)]) rfl rfl ?_
  obtain ⟨σ2, eσ2, hF⟩ := lm_lte hF
  refine lm_putf C (T := TX3) (N := 9) (ty := .int) (v := .int r1) (w' := (pdW z a σ2)) in3_X3_readDeed tyX3 tyX3_ok nmX3 0 rfl rfl 6 (by decide) fl50_X3_readDeed rfl rfl rfl rfl rfl (Nat.le_of_ble_eq_true rfl) dX3_readDeed_9 (by rw [← eσ2]; rfl) rfl ?_
  refine lm_aload_n C dX3_readDeed_12 rfl 0 rfl rfl ?_
  refine lm_dup C dX3_readDeed_13 rfl rfl ?_
  refine lm_getf C (T := TX3) (N := 9) (v := .int (σ2 0 3)) in3_X3_readDeed 0 rfl rfl 3 (by decide) fl30_X3_readDeed rfl rfl dX3_readDeed_14 rfl ?_
  refine lm_iconst C (v := (1 : Int32)) dX3_readDeed_17 (by decide) rfl ?_
  refine lm_iadd C dX3_readDeed_18 rfl rfl ?_
  obtain ⟨σ3, eσ3, hF⟩ := lm_lte hF
  refine lm_putf C (T := TX3) (N := 9) (ty := .int) (v := .int ((σ2 0 3) + (1 : Int32))) (w' := (pdW z a σ3)) in3_X3_readDeed tyX3 tyX3_ok nmX3 0 rfl rfl 3 (by decide) fl30_X3_readDeed rfl rfl rfl rfl rfl (Nat.le_of_ble_eq_true rfl) dX3_readDeed_19 (by rw [← eσ3]; rfl) rfl ?_
  refine lm_aload_n C dX3_readDeed_22 rfl 0 rfl rfl ?_
  refine lm_getf C (T := TX3) (N := 9) (v := .int (σ3 0 6)) in3_X3_readDeed 0 rfl rfl 6 (by decide) fl50_X3_readDeed rfl rfl dX3_readDeed_23 rfl ?_
  rcases Classical.em ((σ3 0 6) = (43 : Int32)) with c4 | c4
  · have hF := lm_brt hF c4
    refine lm_lookup C (off := 90) (tgt := 116) dX3_readDeed_26 (by decide) (by rw [c4]; decide) (by decide) ?_
    refine lm_aload_n C dX3_readDeed_116 rfl 0 rfl rfl ?_
    obtain ⟨r6, σ5, qσ5, hF⟩ := lm_b2e hF
    refine lm_callV C (n := 0) (ci := 3) (w' := (pdW z a σ5)) hA (m_X3_readRow D z zo l a σ3  r6 σ5 qσ5) gX3_readDeed_X3_readRow rfl (by decide +kernel) ⟨Nat.le_of_ble_eq_true rfl, Nat.le_of_ble_eq_true rfl⟩ ⟨Nat.le_of_ble_eq_true rfl, Nat.le_of_ble_eq_true rfl⟩ 0 rfl rfl lm_pr lm_pr' rfl rfl (Nat.le_of_ble_eq_true rfl) dX3_readDeed_117 (st' := [.int r6]) rfl rfl ?_
    obtain ⟨c7, hF⟩ := lm_gde hF
    cases hF
    exact lm_zret C hr hk (lm_boolok c7) rfl rfl dX3_readDeed_120
  · have hF := lm_brf hF c4
    rcases Classical.em ((σ3 0 6) = (45 : Int32)) with c8 | c8
    · have hF := lm_brt hF c8
      refine lm_lookup C (off := 66) (tgt := 92) dX3_readDeed_26 (by decide) (by rw [c8]; decide) (by decide) ?_
      refine lm_aload_n C dX3_readDeed_92 rfl 0 rfl rfl ?_
      refine lm_aload_n C dX3_readDeed_93 rfl 0 rfl rfl ?_
      refine lm_iconst C (v := (0 : Int32)) dX3_readDeed_94 (by decide) rfl ?_
      refine lm_bipush C (v := (19 : Int32)) dX3_readDeed_95 (by decide) rfl ?_
      obtain ⟨r10, σ9, qσ9, hF⟩ := lm_b2e hF
      refine lm_callV C (n := 2) (ci := 3) (w' := (pdW z a σ9)) hA (m_X3_readNumber D z zo l a σ3 (0 : Int32) (19 : Int32) r10 σ9 qσ9) gX3_readDeed_X3_readNumber rfl (by decide +kernel) ⟨Nat.le_of_ble_eq_true rfl, Nat.le_of_ble_eq_true rfl⟩ ⟨Nat.le_of_ble_eq_true rfl, Nat.le_of_ble_eq_true rfl⟩ 0 rfl rfl lm_pr lm_pr' rfl rfl (Nat.le_of_ble_eq_true rfl) dX3_readDeed_97 (st' := [.int r10, .ref (a 0)]) rfl rfl ?_
      obtain ⟨σ11, eσ11, hF⟩ := lm_lte hF
      refine lm_putf C (T := TX3) (N := 9) (ty := .int) (v := .int r10) (w' := (pdW z a σ11)) in3_X3_readDeed tyX3 tyX3_ok nmX3 0 rfl rfl 7 (by decide) fl53_X3_readDeed rfl rfl rfl rfl rfl (Nat.le_of_ble_eq_true rfl) dX3_readDeed_100 (by rw [← eσ11]; rfl) rfl ?_
      refine lm_aload_n C dX3_readDeed_103 rfl 0 rfl rfl ?_
      refine lm_getf C (T := TX3) (N := 9) (v := .int (σ11 0 7)) in3_X3_readDeed 0 rfl rfl 7 (by decide) fl53_X3_readDeed rfl rfl dX3_readDeed_104 rfl ?_
      refine lm_if_lt C (tgt := 114) dX3_readDeed_107 (by decide) rfl (fun c12 => ?_) (fun c12 => ?_)
      · have hF := lm_brt hF c12
        refine lm_iconst C (v := (0 : Int32)) dX3_readDeed_114 (by decide) rfl ?_
        cases hF
        exact lm_zret C hr hk rfl rfl rfl dX3_readDeed_115
      · have hF := lm_brf hF c12
        refine lm_iconst C (v := (1 : Int32)) dX3_readDeed_110 (by decide) rfl ?_
        refine lm_goto C (tgt := 115) dX3_readDeed_111 (by decide) ?_
        cases hF
        exact lm_zret C hr hk rfl rfl rfl dX3_readDeed_115
    · have hF := lm_brf hF c8
      rcases Classical.em ((σ3 0 6) = (114 : Int32)) with c13 | c13
      · have hF := lm_brt hF c13
        refine lm_lookup C (off := 95) (tgt := 121) dX3_readDeed_26 (by decide) (by rw [c13]; decide) (by decide) ?_
        refine lm_iconst C (v := (1 : Int32)) dX3_readDeed_121 (by decide) rfl ?_
        cases hF
        exact lm_zret C hr hk rfl rfl rfl dX3_readDeed_122
      · have hF := lm_brf hF c13
        rcases Classical.em ((σ3 0 6) = (115 : Int32)) with c14 | c14
        · have hF := lm_brt hF c14
          refine lm_lookup C (off := 42) (tgt := 68) dX3_readDeed_26 (by decide) (by rw [c14]; decide) (by decide) ?_
          refine lm_aload_n C dX3_readDeed_68 rfl 0 rfl rfl ?_
          refine lm_aload_n C dX3_readDeed_69 rfl 0 rfl rfl ?_
          refine lm_iconst C (v := (1 : Int32)) dX3_readDeed_70 (by decide) rfl ?_
          refine lm_bipush C (v := (20 : Int32)) dX3_readDeed_71 (by decide) rfl ?_
          obtain ⟨r16, σ15, qσ15, hF⟩ := lm_b2e hF
          refine lm_callV C (n := 2) (ci := 3) (w' := (pdW z a σ15)) hA (m_X3_readNumber D z zo l a σ3 (1 : Int32) (20 : Int32) r16 σ15 qσ15) gX3_readDeed_X3_readNumber rfl (by decide +kernel) ⟨Nat.le_of_ble_eq_true rfl, Nat.le_of_ble_eq_true rfl⟩ ⟨Nat.le_of_ble_eq_true rfl, Nat.le_of_ble_eq_true rfl⟩ 0 rfl rfl lm_pr lm_pr' rfl rfl (Nat.le_of_ble_eq_true rfl) dX3_readDeed_73 (st' := [.int r16, .ref (a 0)]) rfl rfl ?_
          obtain ⟨σ17, eσ17, hF⟩ := lm_lte hF
          refine lm_putf C (T := TX3) (N := 9) (ty := .int) (v := .int r16) (w' := (pdW z a σ17)) in3_X3_readDeed tyX3 tyX3_ok nmX3 0 rfl rfl 7 (by decide) fl53_X3_readDeed rfl rfl rfl rfl rfl (Nat.le_of_ble_eq_true rfl) dX3_readDeed_76 (by rw [← eσ17]; rfl) rfl ?_
          refine lm_aload_n C dX3_readDeed_79 rfl 0 rfl rfl ?_
          refine lm_getf C (T := TX3) (N := 9) (v := .int (σ17 0 7)) in3_X3_readDeed 0 rfl rfl 7 (by decide) fl53_X3_readDeed rfl rfl dX3_readDeed_80 rfl ?_
          refine lm_if_lt C (tgt := 90) dX3_readDeed_83 (by decide) rfl (fun c18 => ?_) (fun c18 => ?_)
          · have hF := lm_brt hF c18
            refine lm_iconst C (v := (0 : Int32)) dX3_readDeed_90 (by decide) rfl ?_
            cases hF
            exact lm_zret C hr hk rfl rfl rfl dX3_readDeed_91
          · have hF := lm_brf hF c18
            refine lm_iconst C (v := (1 : Int32)) dX3_readDeed_86 (by decide) rfl ?_
            refine lm_goto C (tgt := 91) dX3_readDeed_87 (by decide) ?_
            cases hF
            exact lm_zret C hr hk rfl rfl rfl dX3_readDeed_91
        · have hF := lm_brf hF c14
          refine lm_lookup C (off := 97) (tgt := 123) dX3_readDeed_26 (by decide) (by rw [lv_osw c4 (by decide)]; rw [lv_osw c8 (by decide)]; rw [lv_osw c13 (by decide)]; rw [lv_osw c14 (by decide)]; rfl) (by decide) ?_
          refine lm_aload_n C dX3_readDeed_123 rfl 0 rfl rfl ?_
          refine lm_aload_n C dX3_readDeed_124 rfl 0 rfl rfl ?_
          refine lm_getf C (T := TX3) (N := 9) (v := .int (σ3 0 5)) in3_X3_readDeed 0 rfl rfl 5 (by decide) fl41_X3_readDeed rfl rfl dX3_readDeed_125 rfl ?_
          obtain ⟨σ19, eσ19, hF⟩ := lm_lte hF
          refine lm_putf C (T := TX3) (N := 9) (ty := .int) (v := .int (σ3 0 5)) (w' := (pdW z a σ19)) in3_X3_readDeed tyX3 tyX3_ok nmX3 0 rfl rfl 3 (by decide) fl30_X3_readDeed rfl rfl rfl rfl rfl (Nat.le_of_ble_eq_true rfl) dX3_readDeed_128 (by rw [← eσ19]; rfl) rfl ?_
          refine lm_iconst C (v := (0 : Int32)) dX3_readDeed_131 (by decide) rfl ?_
          cases hF
          exact lm_zret C hr hk rfl rfl rfl dX3_readDeed_132
def F_X3_next (σ : Hp)  : Option (Int32 × (Hp)) :=
  lm_br ((σ 0 3) ≤ 0)
   (lm_lt (lm_u σ 0 5 (σ 0 3)) fun σ2 =>
   lm_br ((σ2 0 2) = 0)
    (lm_b2 (F_X3_readRow σ2) fun r5 σ4 =>
    lm_gd (r5 = 0 ∨ r5 = 1) (some (r5, σ4)))
    (lm_b2 (F_X3_readDeed σ2) fun r8 σ7 =>
    lm_gd (r8 = 0 ∨ r8 = 1) (some (r8, σ7))))
   (lm_br ((σ 0 2) = 0)
    (lm_b2 (F_X3_takes σ (44 : Int32)) fun r12 σ11 =>
    lm_br (¬ r12 = 0)
     (lm_lt (lm_u σ11 0 5 (σ11 0 3)) fun σ14 =>
     lm_br ((σ14 0 2) = 0)
      (lm_b2 (F_X3_readRow σ14) fun r17 σ16 =>
      lm_gd (r17 = 0 ∨ r17 = 1) (some (r17, σ16)))
      (lm_b2 (F_X3_readDeed σ14) fun r20 σ19 =>
      lm_gd (r20 = 0 ∨ r20 = 1) (some (r20, σ19))))
     (some ((0 : Int32), σ11)))
    (lm_b2 (F_X3_takes σ (59 : Int32)) fun r23 σ22 =>
    lm_br (¬ r23 = 0)
     (lm_lt (lm_u σ22 0 5 (σ22 0 3)) fun σ25 =>
     lm_br ((σ25 0 2) = 0)
      (lm_b2 (F_X3_readRow σ25) fun r28 σ27 =>
      lm_gd (r28 = 0 ∨ r28 = 1) (some (r28, σ27)))
      (lm_b2 (F_X3_readDeed σ25) fun r31 σ30 =>
      lm_gd (r31 = 0 ∨ r31 = 1) (some (r31, σ30))))
     (some ((0 : Int32), σ22))))
theorem in3_X3_next : ∀ w ∈ u_ws RX3 TX3 9, w ∈ wsX3_next := by decide +kernel
theorem fl30_X3_next : Cond.fieldLink RX3 30 "LoopMemo$Pad" "at" "I" ∈ wsX3_next := by decide +kernel
theorem fl33_X3_next : Cond.fieldLink RX3 33 "LoopMemo$Pad" "isReadAsDeeds" "Z" ∈ wsX3_next := by decide +kernel
theorem fl41_X3_next : Cond.fieldLink RX3 41 "LoopMemo$Pad" "start" "I" ∈ wsX3_next := by decide +kernel
set_option maxRecDepth 100000 in
set_option maxHeartbeats 4000000 in
theorem m_X3_next (D : va_G) (z zo : ClassId) (l : Launch) (a : Nat → Nat) (σ : Hp)  (r : Int32) (σ' : Hp) (hF : F_X3_next σ  = some (r, σ')) : lm_C D z zo l yX3_next wsX3_next 4 85 [.ref (a 0)] (pdW z a σ) (some (.int r)) (pdW z a σ') := by
  refine lm_C.of (by decide) rfl (Nat.le_of_ble_eq_true rfl) (own := RX3) rfl ?_
  intro p e s m_ args below meth c C hr hk hA
  show lm_St p l e ({ frames := 4, cells := 0, slots := 0, locals := 85 }) s m_ args below meth c D (va_A (pdW z a σ) s.heap.size) 1 0 0 (lm_End below D (some (.int r)) (pdW z a σ) (pdW z a σ') args s) false (pdW z a σ) 0 [(0, .ref (a 0))] []
  rw [F_X3_next] at hF
  refine lm_aload_n C dX3_next_0 rfl 0 rfl rfl ?_
  refine lm_getf C (T := TX3) (N := 9) (v := .int (σ 0 3)) in3_X3_next 0 rfl rfl 3 (by decide) fl30_X3_next rfl rfl dX3_next_1 rfl ?_
  refine lm_if_le C (tgt := 30) dX3_next_4 (by decide) rfl (fun c1 => ?_) (fun c1 => ?_)
  · have hF := lm_brt hF c1
    refine lm_aload_n C dX3_next_30 rfl 0 rfl rfl ?_
    refine lm_aload_n C dX3_next_31 rfl 0 rfl rfl ?_
    refine lm_getf C (T := TX3) (N := 9) (v := .int (σ 0 3)) in3_X3_next 0 rfl rfl 3 (by decide) fl30_X3_next rfl rfl dX3_next_32 rfl ?_
    obtain ⟨σ2, eσ2, hF⟩ := lm_lte hF
    refine lm_putf C (T := TX3) (N := 9) (ty := .int) (v := .int (σ 0 3)) (w' := (pdW z a σ2)) in3_X3_next tyX3 tyX3_ok nmX3 0 rfl rfl 5 (by decide) fl41_X3_next rfl rfl rfl rfl rfl (Nat.le_of_ble_eq_true rfl) dX3_next_35 (by rw [← eσ2]; rfl) rfl ?_
    refine lm_aload_n C dX3_next_38 rfl 0 rfl rfl ?_
    refine lm_getf C (T := TX3) (N := 9) (v := .int (σ2 0 2)) in3_X3_next 0 rfl rfl 2 (by decide) fl33_X3_next rfl rfl dX3_next_39 rfl ?_
    refine lm_if_eq C (tgt := 52) dX3_next_42 (by decide) rfl (fun c3 => ?_) (fun c3 => ?_)
    · have hF := lm_brt hF c3
      refine lm_aload_n C dX3_next_52 rfl 0 rfl rfl ?_
      obtain ⟨r5, σ4, qσ4, hF⟩ := lm_b2e hF
      refine lm_callV C (n := 0) (ci := 3) (w' := (pdW z a σ4)) hA (m_X3_readRow D z zo l a σ2  r5 σ4 qσ4) gX3_next_X3_readRow rfl (by decide +kernel) ⟨Nat.le_of_ble_eq_true rfl, Nat.le_of_ble_eq_true rfl⟩ ⟨Nat.le_of_ble_eq_true rfl, Nat.le_of_ble_eq_true rfl⟩ 0 rfl rfl lm_pr lm_pr' rfl rfl (Nat.le_of_ble_eq_true rfl) dX3_next_53 (st' := [.int r5]) rfl rfl ?_
      obtain ⟨c6, hF⟩ := lm_gde hF
      cases hF
      exact lm_zret C hr hk (lm_boolok c6) rfl rfl dX3_next_56
    · have hF := lm_brf hF c3
      refine lm_aload_n C dX3_next_45 rfl 0 rfl rfl ?_
      obtain ⟨r8, σ7, qσ7, hF⟩ := lm_b2e hF
      refine lm_callV C (n := 0) (ci := 3) (w' := (pdW z a σ7)) hA (m_X3_readDeed D z zo l a σ2  r8 σ7 qσ7) gX3_next_X3_readDeed rfl (by decide +kernel) ⟨Nat.le_of_ble_eq_true rfl, Nat.le_of_ble_eq_true rfl⟩ ⟨Nat.le_of_ble_eq_true rfl, Nat.le_of_ble_eq_true rfl⟩ 0 rfl rfl lm_pr lm_pr' rfl rfl (Nat.le_of_ble_eq_true rfl) dX3_next_46 (st' := [.int r8]) rfl rfl ?_
      refine lm_goto C (tgt := 56) dX3_next_49 (by decide) ?_
      obtain ⟨c9, hF⟩ := lm_gde hF
      cases hF
      exact lm_zret C hr hk (lm_boolok c9) rfl rfl dX3_next_56
  · have hF := lm_brf hF c1
    refine lm_aload_n C dX3_next_7 rfl 0 rfl rfl ?_
    refine lm_aload_n C dX3_next_8 rfl 0 rfl rfl ?_
    refine lm_getf C (T := TX3) (N := 9) (v := .int (σ 0 2)) in3_X3_next 0 rfl rfl 2 (by decide) fl33_X3_next rfl rfl dX3_next_9 rfl ?_
    refine lm_if_eq C (tgt := 20) dX3_next_12 (by decide) rfl (fun c10 => ?_) (fun c10 => ?_)
    · have hF := lm_brt hF c10
      refine lm_bipush C (v := (44 : Int32)) dX3_next_20 (by decide) rfl ?_
      obtain ⟨r12, σ11, qσ11, hF⟩ := lm_b2e hF
      refine lm_callV C (n := 1) (ci := 3) (w' := (pdW z a σ11)) hA (m_X3_takes D z zo l a σ (44 : Int32) r12 σ11 qσ11) gX3_next_X3_takes rfl (by decide +kernel) ⟨Nat.le_of_ble_eq_true rfl, Nat.le_of_ble_eq_true rfl⟩ ⟨Nat.le_of_ble_eq_true rfl, Nat.le_of_ble_eq_true rfl⟩ 0 rfl rfl lm_pr lm_pr' rfl rfl (Nat.le_of_ble_eq_true rfl) dX3_next_22 (st' := [.int r12]) rfl rfl ?_
      refine lm_if_ne C (tgt := 30) dX3_next_25 (by decide) rfl (fun c13 => ?_) (fun c13 => ?_)
      · have hF := lm_brt hF c13
        refine lm_aload_n C dX3_next_30 rfl 0 rfl rfl ?_
        refine lm_aload_n C dX3_next_31 rfl 0 rfl rfl ?_
        refine lm_getf C (T := TX3) (N := 9) (v := .int (σ11 0 3)) in3_X3_next 0 rfl rfl 3 (by decide) fl30_X3_next rfl rfl dX3_next_32 rfl ?_
        obtain ⟨σ14, eσ14, hF⟩ := lm_lte hF
        refine lm_putf C (T := TX3) (N := 9) (ty := .int) (v := .int (σ11 0 3)) (w' := (pdW z a σ14)) in3_X3_next tyX3 tyX3_ok nmX3 0 rfl rfl 5 (by decide) fl41_X3_next rfl rfl rfl rfl rfl (Nat.le_of_ble_eq_true rfl) dX3_next_35 (by rw [← eσ14]; rfl) rfl ?_
        refine lm_aload_n C dX3_next_38 rfl 0 rfl rfl ?_
        refine lm_getf C (T := TX3) (N := 9) (v := .int (σ14 0 2)) in3_X3_next 0 rfl rfl 2 (by decide) fl33_X3_next rfl rfl dX3_next_39 rfl ?_
        refine lm_if_eq C (tgt := 52) dX3_next_42 (by decide) rfl (fun c15 => ?_) (fun c15 => ?_)
        · have hF := lm_brt hF c15
          refine lm_aload_n C dX3_next_52 rfl 0 rfl rfl ?_
          obtain ⟨r17, σ16, qσ16, hF⟩ := lm_b2e hF
          refine lm_callV C (n := 0) (ci := 3) (w' := (pdW z a σ16)) hA (m_X3_readRow D z zo l a σ14  r17 σ16 qσ16) gX3_next_X3_readRow rfl (by decide +kernel) ⟨Nat.le_of_ble_eq_true rfl, Nat.le_of_ble_eq_true rfl⟩ ⟨Nat.le_of_ble_eq_true rfl, Nat.le_of_ble_eq_true rfl⟩ 0 rfl rfl lm_pr lm_pr' rfl rfl (Nat.le_of_ble_eq_true rfl) dX3_next_53 (st' := [.int r17]) rfl rfl ?_
          obtain ⟨c18, hF⟩ := lm_gde hF
          cases hF
          exact lm_zret C hr hk (lm_boolok c18) rfl rfl dX3_next_56
        · have hF := lm_brf hF c15
          refine lm_aload_n C dX3_next_45 rfl 0 rfl rfl ?_
          obtain ⟨r20, σ19, qσ19, hF⟩ := lm_b2e hF
          refine lm_callV C (n := 0) (ci := 3) (w' := (pdW z a σ19)) hA (m_X3_readDeed D z zo l a σ14  r20 σ19 qσ19) gX3_next_X3_readDeed rfl (by decide +kernel) ⟨Nat.le_of_ble_eq_true rfl, Nat.le_of_ble_eq_true rfl⟩ ⟨Nat.le_of_ble_eq_true rfl, Nat.le_of_ble_eq_true rfl⟩ 0 rfl rfl lm_pr lm_pr' rfl rfl (Nat.le_of_ble_eq_true rfl) dX3_next_46 (st' := [.int r20]) rfl rfl ?_
          refine lm_goto C (tgt := 56) dX3_next_49 (by decide) ?_
          obtain ⟨c21, hF⟩ := lm_gde hF
          cases hF
          exact lm_zret C hr hk (lm_boolok c21) rfl rfl dX3_next_56
      · have hF := lm_brf hF c13
        refine lm_iconst C (v := (0 : Int32)) dX3_next_28 (by decide) rfl ?_
        cases hF
        exact lm_zret C hr hk rfl rfl rfl dX3_next_29
    · have hF := lm_brf hF c10
      refine lm_bipush C (v := (59 : Int32)) dX3_next_15 (by decide) rfl ?_
      refine lm_goto C (tgt := 22) dX3_next_17 (by decide) ?_
      obtain ⟨r23, σ22, qσ22, hF⟩ := lm_b2e hF
      refine lm_callV C (n := 1) (ci := 3) (w' := (pdW z a σ22)) hA (m_X3_takes D z zo l a σ (59 : Int32) r23 σ22 qσ22) gX3_next_X3_takes rfl (by decide +kernel) ⟨Nat.le_of_ble_eq_true rfl, Nat.le_of_ble_eq_true rfl⟩ ⟨Nat.le_of_ble_eq_true rfl, Nat.le_of_ble_eq_true rfl⟩ 0 rfl rfl lm_pr lm_pr' rfl rfl (Nat.le_of_ble_eq_true rfl) dX3_next_22 (st' := [.int r23]) rfl rfl ?_
      refine lm_if_ne C (tgt := 30) dX3_next_25 (by decide) rfl (fun c24 => ?_) (fun c24 => ?_)
      · have hF := lm_brt hF c24
        refine lm_aload_n C dX3_next_30 rfl 0 rfl rfl ?_
        refine lm_aload_n C dX3_next_31 rfl 0 rfl rfl ?_
        refine lm_getf C (T := TX3) (N := 9) (v := .int (σ22 0 3)) in3_X3_next 0 rfl rfl 3 (by decide) fl30_X3_next rfl rfl dX3_next_32 rfl ?_
        obtain ⟨σ25, eσ25, hF⟩ := lm_lte hF
        refine lm_putf C (T := TX3) (N := 9) (ty := .int) (v := .int (σ22 0 3)) (w' := (pdW z a σ25)) in3_X3_next tyX3 tyX3_ok nmX3 0 rfl rfl 5 (by decide) fl41_X3_next rfl rfl rfl rfl rfl (Nat.le_of_ble_eq_true rfl) dX3_next_35 (by rw [← eσ25]; rfl) rfl ?_
        refine lm_aload_n C dX3_next_38 rfl 0 rfl rfl ?_
        refine lm_getf C (T := TX3) (N := 9) (v := .int (σ25 0 2)) in3_X3_next 0 rfl rfl 2 (by decide) fl33_X3_next rfl rfl dX3_next_39 rfl ?_
        refine lm_if_eq C (tgt := 52) dX3_next_42 (by decide) rfl (fun c26 => ?_) (fun c26 => ?_)
        · have hF := lm_brt hF c26
          refine lm_aload_n C dX3_next_52 rfl 0 rfl rfl ?_
          obtain ⟨r28, σ27, qσ27, hF⟩ := lm_b2e hF
          refine lm_callV C (n := 0) (ci := 3) (w' := (pdW z a σ27)) hA (m_X3_readRow D z zo l a σ25  r28 σ27 qσ27) gX3_next_X3_readRow rfl (by decide +kernel) ⟨Nat.le_of_ble_eq_true rfl, Nat.le_of_ble_eq_true rfl⟩ ⟨Nat.le_of_ble_eq_true rfl, Nat.le_of_ble_eq_true rfl⟩ 0 rfl rfl lm_pr lm_pr' rfl rfl (Nat.le_of_ble_eq_true rfl) dX3_next_53 (st' := [.int r28]) rfl rfl ?_
          obtain ⟨c29, hF⟩ := lm_gde hF
          cases hF
          exact lm_zret C hr hk (lm_boolok c29) rfl rfl dX3_next_56
        · have hF := lm_brf hF c26
          refine lm_aload_n C dX3_next_45 rfl 0 rfl rfl ?_
          obtain ⟨r31, σ30, qσ30, hF⟩ := lm_b2e hF
          refine lm_callV C (n := 0) (ci := 3) (w' := (pdW z a σ30)) hA (m_X3_readDeed D z zo l a σ25  r31 σ30 qσ30) gX3_next_X3_readDeed rfl (by decide +kernel) ⟨Nat.le_of_ble_eq_true rfl, Nat.le_of_ble_eq_true rfl⟩ ⟨Nat.le_of_ble_eq_true rfl, Nat.le_of_ble_eq_true rfl⟩ 0 rfl rfl lm_pr lm_pr' rfl rfl (Nat.le_of_ble_eq_true rfl) dX3_next_46 (st' := [.int r31]) rfl rfl ?_
          refine lm_goto C (tgt := 56) dX3_next_49 (by decide) ?_
          obtain ⟨c32, hF⟩ := lm_gde hF
          cases hF
          exact lm_zret C hr hk (lm_boolok c32) rfl rfl dX3_next_56
      · have hF := lm_brf hF c24
        refine lm_iconst C (v := (0 : Int32)) dX3_next_28 (by decide) rfl ?_
        cases hF
        exact lm_zret C hr hk rfl rfl rfl dX3_next_29
def F_X3_findFault_L10 : Nat → Hp → Option (Int32 × (Hp))
  | 0, _ => none
  | n + 1, σx =>
    lm_br ((60 : Int32) ≤ (σx 0 4))
     (some ((σx 0 3), σx))
     (lm_b2 (F_X3_next σx) fun r5 σ4 =>
     lm_br (r5 = 0)
      (some ((σ4 0 3), σ4))
      (lm_lt (lm_u σ4 0 4 ((σ4 0 4) + (1 : Int32))) fun σ7 =>
      lm_br (¬ (σ7 0 3) = (σ7 0 1))
       (F_X3_findFault_L10 n σ7)
       (some ((-4 : Int32), σ7))))
def F_X3_findFault (σ : Hp) (x1 : Int32) : Option (Int32 × (Hp)) :=
  lm_bd (F_X3_open σ x1) fun σ1 =>
  lm_lt (lm_u σ1 0 4 (0 : Int32)) fun σ2 =>
  F_X3_findFault_L10 1000 σ2
theorem in3_X3_findFault : ∀ w ∈ u_ws RX3 TX3 9, w ∈ wsX3_findFault := by decide +kernel
theorem fl23_X3_findFault : Cond.fieldLink RX3 23 "LoopMemo$Pad" "items" "I" ∈ wsX3_findFault := by decide +kernel
theorem fl30_X3_findFault : Cond.fieldLink RX3 30 "LoopMemo$Pad" "at" "I" ∈ wsX3_findFault := by decide +kernel
theorem fl15_X3_findFault : Cond.fieldLink RX3 15 "LoopMemo$Pad" "size" "I" ∈ wsX3_findFault := by decide +kernel
set_option maxRecDepth 100000 in
set_option maxHeartbeats 4000000 in
theorem m_X3_findFault (D : va_G) (z zo : ClassId) (l : Launch) (a : Nat → Nat) (σ : Hp) (x1 : Int32) (r : Int32) (σ' : Hp) (hF : F_X3_findFault σ x1 = some (r, σ')) : lm_C D z zo l yX3_findFault wsX3_findFault 5 105 [.ref (a 0), .int x1] (pdW z a σ) (some (.int r)) (pdW z a σ') := by
  refine lm_C.of (by decide) rfl (Nat.le_of_ble_eq_true rfl) (own := RX3) rfl ?_
  intro p e s m_ args below meth c C hr hk hA
  have loop_10 : ∀ (n : Nat) (σx : Hp), F_X3_findFault_L10 n σx = some (r, σ') → lm_St p l e ({ frames := 5, cells := 0, slots := 0, locals := 105 }) s m_ args below meth c D (va_A (pdW z a σ) s.heap.size) 2 0 0 (lm_End below D (some (.int r)) (pdW z a σ) (pdW z a σ') args s) false (pdW z a σx) 10 [(0, .ref (a 0))] [] := by
    intro n
    induction n with
    | zero => intro σx hF; cases (show (none : Option _) = some _ from hF)
    | succ n ih =>
      intro σx hF
      rw [F_X3_findFault_L10] at hF
      refine lm_aload_n C dX3_findFault_10 rfl 0 rfl rfl ?_
      refine lm_getf C (T := TX3) (N := 9) (v := .int (σx 0 4)) in3_X3_findFault 0 rfl rfl 4 (by decide) fl23_X3_findFault rfl rfl dX3_findFault_11 rfl ?_
      refine lm_bipush C (v := (60 : Int32)) dX3_findFault_14 (by decide) rfl ?_
      refine lm_icmp_ge C (tgt := 50) dX3_findFault_16 (by decide) rfl (fun c3 => ?_) (fun c3 => ?_)
      · have hF := lm_brt hF c3
        refine lm_aload_n C dX3_findFault_50 rfl 0 rfl rfl ?_
        refine lm_getf C (T := TX3) (N := 9) (v := .int (σx 0 3)) in3_X3_findFault 0 rfl rfl 3 (by decide) fl30_X3_findFault rfl rfl dX3_findFault_51 rfl ?_
        cases hF
        exact lm_iret C hr hk rfl rfl dX3_findFault_54
      · have hF := lm_brf hF c3
        refine lm_aload_n C dX3_findFault_19 rfl 0 rfl rfl ?_
        obtain ⟨r5, σ4, qσ4, hF⟩ := lm_b2e hF
        refine lm_callV C (n := 0) (ci := 3) (w' := (pdW z a σ4)) hA (m_X3_next D z zo l a σx  r5 σ4 qσ4) gX3_findFault_X3_next rfl (by decide +kernel) ⟨Nat.le_of_ble_eq_true rfl, Nat.le_of_ble_eq_true rfl⟩ ⟨Nat.le_of_ble_eq_true rfl, Nat.le_of_ble_eq_true rfl⟩ 0 rfl rfl lm_pr lm_pr' rfl rfl (Nat.le_of_ble_eq_true rfl) dX3_findFault_20 (st' := [.int r5]) rfl rfl ?_
        refine lm_if_eq C (tgt := 50) dX3_findFault_23 (by decide) rfl (fun c6 => ?_) (fun c6 => ?_)
        · have hF := lm_brt hF c6
          refine lm_aload_n C dX3_findFault_50 rfl 0 rfl rfl ?_
          refine lm_getf C (T := TX3) (N := 9) (v := .int (σ4 0 3)) in3_X3_findFault 0 rfl rfl 3 (by decide) fl30_X3_findFault rfl rfl dX3_findFault_51 rfl ?_
          cases hF
          exact lm_iret C hr hk rfl rfl dX3_findFault_54
        · have hF := lm_brf hF c6
          refine lm_aload_n C dX3_findFault_26 rfl 0 rfl rfl ?_
          refine lm_dup C dX3_findFault_27 rfl rfl ?_
          refine lm_getf C (T := TX3) (N := 9) (v := .int (σ4 0 4)) in3_X3_findFault 0 rfl rfl 4 (by decide) fl23_X3_findFault rfl rfl dX3_findFault_28 rfl ?_
          refine lm_iconst C (v := (1 : Int32)) dX3_findFault_31 (by decide) rfl ?_
          refine lm_iadd C dX3_findFault_32 rfl rfl ?_
          obtain ⟨σ7, eσ7, hF⟩ := lm_lte hF
          refine lm_putf C (T := TX3) (N := 9) (ty := .int) (v := .int ((σ4 0 4) + (1 : Int32))) (w' := (pdW z a σ7)) in3_X3_findFault tyX3 tyX3_ok nmX3 0 rfl rfl 4 (by decide) fl23_X3_findFault rfl rfl rfl rfl rfl (Nat.le_of_ble_eq_true rfl) dX3_findFault_33 (by rw [← eσ7]; rfl) rfl ?_
          refine lm_aload_n C dX3_findFault_36 rfl 0 rfl rfl ?_
          refine lm_getf C (T := TX3) (N := 9) (v := .int (σ7 0 3)) in3_X3_findFault 0 rfl rfl 3 (by decide) fl30_X3_findFault rfl rfl dX3_findFault_37 rfl ?_
          refine lm_aload_n C dX3_findFault_40 rfl 0 rfl rfl ?_
          refine lm_getf C (T := TX3) (N := 9) (v := .int (σ7 0 1)) in3_X3_findFault 0 rfl rfl 1 (by decide) fl15_X3_findFault rfl rfl dX3_findFault_41 rfl ?_
          refine lm_icmp_ne C (tgt := 10) dX3_findFault_44 (by decide) rfl (fun c8 => ?_) (fun c8 => ?_)
          · have hF := lm_brt hF c8
            exact ih σ7 hF
          · have hF := lm_brf hF c8
            refine lm_bipush C (v := (-4 : Int32)) dX3_findFault_47 (by decide) rfl ?_
            cases hF
            exact lm_iret C hr hk rfl rfl dX3_findFault_49
  show lm_St p l e ({ frames := 5, cells := 0, slots := 0, locals := 105 }) s m_ args below meth c D (va_A (pdW z a σ) s.heap.size) 2 0 0 (lm_End below D (some (.int r)) (pdW z a σ) (pdW z a σ') args s) false (pdW z a σ) 0 [(0, .ref (a 0)), (1, .int x1)] []
  rw [F_X3_findFault] at hF
  refine lm_aload_n C dX3_findFault_0 rfl 0 rfl rfl ?_
  refine lm_iload_n C dX3_findFault_1 rfl 1 rfl rfl ?_
  obtain ⟨σ1, qσ1, hF⟩ := lm_bde hF
  refine lm_callV C (n := 1) (ci := 3) (w' := (pdW z a σ1)) hA (m_X3_open D z zo l a σ x1 σ1 qσ1) gX3_findFault_X3_open rfl (by decide +kernel) ⟨Nat.le_of_ble_eq_true rfl, Nat.le_of_ble_eq_true rfl⟩ ⟨Nat.le_of_ble_eq_true rfl, Nat.le_of_ble_eq_true rfl⟩ 0 rfl rfl lm_pr lm_pr' rfl rfl (Nat.le_of_ble_eq_true rfl) dX3_findFault_2 (st' := []) rfl rfl ?_
  refine lm_aload_n C dX3_findFault_5 rfl 0 rfl rfl ?_
  refine lm_iconst C (v := (0 : Int32)) dX3_findFault_6 (by decide) rfl ?_
  obtain ⟨σ2, eσ2, hF⟩ := lm_lte hF
  refine lm_putf C (T := TX3) (N := 9) (ty := .int) (v := .int (0 : Int32)) (w' := (pdW z a σ2)) in3_X3_findFault tyX3 tyX3_ok nmX3 0 rfl rfl 4 (by decide) fl23_X3_findFault rfl rfl rfl rfl rfl (Nat.le_of_ble_eq_true rfl) dX3_findFault_7 (by rw [← eσ2]; rfl) rfl ?_
  refine lm_lvsub (lv' := [(0, .ref (a 0))]) [0] rfl ?_
  exact loop_10 1000 σ2 hF
def F_X3_items (σ : Hp)  : Option Int32 :=
  some (σ 0 4)
theorem in3_X3_items : ∀ w ∈ u_ws RX3 TX3 9, w ∈ wsX3_items := by decide +kernel
theorem fl23_X3_items : Cond.fieldLink RX3 23 "LoopMemo$Pad" "items" "I" ∈ wsX3_items := by decide +kernel
set_option maxRecDepth 100000 in
set_option maxHeartbeats 4000000 in
theorem m_X3_items (D : va_G) (z zo : ClassId) (l : Launch) (a : Nat → Nat) (σ : Hp)  (r : Int32)  (hF : F_X3_items σ  = some r) : lm_CR D z zo l yX3_items wsX3_items 0 0 [.ref (a 0)] (pdW z a σ) (some (.int r)) := by
  refine lm_CR.of (by decide) rfl (Nat.le_of_ble_eq_true rfl) (own := RX3) rfl ?_
  intro p e s m_ args below meth c C hr hk
  show lm_St p l e ({ frames := 0, cells := 0, slots := 0, locals := 0 }) s m_ args below meth c D (fun _ => False) 1 0 0 (lm_EndR below (some (.int r)) args s) true (pdW z a σ) 0 [(0, .ref (a 0))] []
  rw [F_X3_items] at hF
  refine lm_aload_n C dX3_items_0 rfl 0 rfl rfl ?_
  refine lm_getf C (T := TX3) (N := 9) (v := .int (σ 0 4)) in3_X3_items 0 rfl rfl 4 (by decide) fl23_X3_items rfl rfl dX3_items_1 rfl ?_
  cases hF
  exact lm_iretR C hr hk rfl dX3_items_4
def F_X3_start (σ : Hp)  : Option Int32 :=
  some (σ 0 5)
theorem in3_X3_start : ∀ w ∈ u_ws RX3 TX3 9, w ∈ wsX3_start := by decide +kernel
theorem fl41_X3_start : Cond.fieldLink RX3 41 "LoopMemo$Pad" "start" "I" ∈ wsX3_start := by decide +kernel
set_option maxRecDepth 100000 in
set_option maxHeartbeats 4000000 in
theorem m_X3_start (D : va_G) (z zo : ClassId) (l : Launch) (a : Nat → Nat) (σ : Hp)  (r : Int32)  (hF : F_X3_start σ  = some r) : lm_CR D z zo l yX3_start wsX3_start 0 0 [.ref (a 0)] (pdW z a σ) (some (.int r)) := by
  refine lm_CR.of (by decide) rfl (Nat.le_of_ble_eq_true rfl) (own := RX3) rfl ?_
  intro p e s m_ args below meth c C hr hk
  show lm_St p l e ({ frames := 0, cells := 0, slots := 0, locals := 0 }) s m_ args below meth c D (fun _ => False) 1 0 0 (lm_EndR below (some (.int r)) args s) true (pdW z a σ) 0 [(0, .ref (a 0))] []
  rw [F_X3_start] at hF
  refine lm_aload_n C dX3_start_0 rfl 0 rfl rfl ?_
  refine lm_getf C (T := TX3) (N := 9) (v := .int (σ 0 5)) in3_X3_start 0 rfl rfl 5 (by decide) fl41_X3_start rfl rfl dX3_start_1 rfl ?_
  cases hF
  exact lm_iretR C hr hk rfl dX3_start_4
def F_X3_sign (σ : Hp)  : Option Int32 :=
  some (σ 0 6)
theorem in3_X3_sign : ∀ w ∈ u_ws RX3 TX3 9, w ∈ wsX3_sign := by decide +kernel
theorem fl50_X3_sign : Cond.fieldLink RX3 50 "LoopMemo$Pad" "sign" "I" ∈ wsX3_sign := by decide +kernel
set_option maxRecDepth 100000 in
set_option maxHeartbeats 4000000 in
theorem m_X3_sign (D : va_G) (z zo : ClassId) (l : Launch) (a : Nat → Nat) (σ : Hp)  (r : Int32)  (hF : F_X3_sign σ  = some r) : lm_CR D z zo l yX3_sign wsX3_sign 0 0 [.ref (a 0)] (pdW z a σ) (some (.int r)) := by
  refine lm_CR.of (by decide) rfl (Nat.le_of_ble_eq_true rfl) (own := RX3) rfl ?_
  intro p e s m_ args below meth c C hr hk
  show lm_St p l e ({ frames := 0, cells := 0, slots := 0, locals := 0 }) s m_ args below meth c D (fun _ => False) 1 0 0 (lm_EndR below (some (.int r)) args s) true (pdW z a σ) 0 [(0, .ref (a 0))] []
  rw [F_X3_sign] at hF
  refine lm_aload_n C dX3_sign_0 rfl 0 rfl rfl ?_
  refine lm_getf C (T := TX3) (N := 9) (v := .int (σ 0 6)) in3_X3_sign 0 rfl rfl 6 (by decide) fl50_X3_sign rfl rfl dX3_sign_1 rfl ?_
  cases hF
  exact lm_iretR C hr hk rfl dX3_sign_4
def F_X3_first (σ : Hp)  : Option Int32 :=
  some (σ 0 7)
theorem in3_X3_first : ∀ w ∈ u_ws RX3 TX3 9, w ∈ wsX3_first := by decide +kernel
theorem fl53_X3_first : Cond.fieldLink RX3 53 "LoopMemo$Pad" "first" "I" ∈ wsX3_first := by decide +kernel
set_option maxRecDepth 100000 in
set_option maxHeartbeats 4000000 in
theorem m_X3_first (D : va_G) (z zo : ClassId) (l : Launch) (a : Nat → Nat) (σ : Hp)  (r : Int32)  (hF : F_X3_first σ  = some r) : lm_CR D z zo l yX3_first wsX3_first 0 0 [.ref (a 0)] (pdW z a σ) (some (.int r)) := by
  refine lm_CR.of (by decide) rfl (Nat.le_of_ble_eq_true rfl) (own := RX3) rfl ?_
  intro p e s m_ args below meth c C hr hk
  show lm_St p l e ({ frames := 0, cells := 0, slots := 0, locals := 0 }) s m_ args below meth c D (fun _ => False) 1 0 0 (lm_EndR below (some (.int r)) args s) true (pdW z a σ) 0 [(0, .ref (a 0))] []
  rw [F_X3_first] at hF
  refine lm_aload_n C dX3_first_0 rfl 0 rfl rfl ?_
  refine lm_getf C (T := TX3) (N := 9) (v := .int (σ 0 7)) in3_X3_first 0 rfl rfl 7 (by decide) fl53_X3_first rfl rfl dX3_first_1 rfl ?_
  cases hF
  exact lm_iretR C hr hk rfl dX3_first_4
def F_X3_second (σ : Hp)  : Option Int32 :=
  some (σ 0 8)
theorem in3_X3_second : ∀ w ∈ u_ws RX3 TX3 9, w ∈ wsX3_second := by decide +kernel
theorem fl56_X3_second : Cond.fieldLink RX3 56 "LoopMemo$Pad" "second" "I" ∈ wsX3_second := by decide +kernel
set_option maxRecDepth 100000 in
set_option maxHeartbeats 4000000 in
theorem m_X3_second (D : va_G) (z zo : ClassId) (l : Launch) (a : Nat → Nat) (σ : Hp)  (r : Int32)  (hF : F_X3_second σ  = some r) : lm_CR D z zo l yX3_second wsX3_second 0 0 [.ref (a 0)] (pdW z a σ) (some (.int r)) := by
  refine lm_CR.of (by decide) rfl (Nat.le_of_ble_eq_true rfl) (own := RX3) rfl ?_
  intro p e s m_ args below meth c C hr hk
  show lm_St p l e ({ frames := 0, cells := 0, slots := 0, locals := 0 }) s m_ args below meth c D (fun _ => False) 1 0 0 (lm_EndR below (some (.int r)) args s) true (pdW z a σ) 0 [(0, .ref (a 0))] []
  rw [F_X3_second] at hF
  refine lm_aload_n C dX3_second_0 rfl 0 rfl rfl ?_
  refine lm_getf C (T := TX3) (N := 9) (v := .int (σ 0 8)) in3_X3_second 0 rfl rfl 8 (by decide) fl56_X3_second rfl rfl dX3_second_1 rfl ?_
  cases hF
  exact lm_iretR C hr hk rfl dX3_second_4
