def F_X2_copyFrom (σ : Hp) (ρ : Hp)  : Option (Hp) :=
  lm_lt (lm_ua σ 1 (va_cpy (ρ 1) (σ 1) 0 0 10)) fun σ1 =>
  lm_lt (lm_ua σ1 2 (va_cpy (ρ 2) (σ1 2) 0 0 10)) fun σ2 =>
  lm_lt (lm_ua σ2 3 (va_cpy (ρ 3) (σ2 3) 0 0 10)) fun σ3 =>
  lm_lt (lm_u σ3 0 3 (ρ 0 3)) fun σ4 =>
  some σ4
theorem in2_X2_copyFrom : ∀ w ∈ u_ws RX2 TX2 4, w ∈ wsX2_copyFrom := by decide +kernel
theorem fl9_X2_copyFrom : Cond.fieldLink RX2 9 "LoopMemo$Memo" "uses" "[I" ∈ wsX2_copyFrom := by decide +kernel
theorem fl15_X2_copyFrom : Cond.fieldLink RX2 15 "LoopMemo$Memo" "lastLooks" "[I" ∈ wsX2_copyFrom := by decide +kernel
theorem fl18_X2_copyFrom : Cond.fieldLink RX2 18 "LoopMemo$Memo" "firstLooks" "[I" ∈ wsX2_copyFrom := by decide +kernel
theorem fl25_X2_copyFrom : Cond.fieldLink RX2 25 "LoopMemo$Memo" "looks" "I" ∈ wsX2_copyFrom := by decide +kernel
theorem ini_X6_copyNumbers_X2_copyFrom : Cond.initialized yX6_copyNumbers.cls ∈ wsX2_copyFrom := by decide +kernel
theorem sta_X6_copyNumbers_X2_copyFrom : Cond.static yX6_copyNumbers ∈ wsX2_copyFrom := by decide +kernel
set_option maxRecDepth 100000 in
set_option maxHeartbeats 4000000 in
theorem m_X2_copyFrom (D : va_G) (z zo : ClassId) (l : Launch) (a : Nat → Nat) (b : Nat → Nat) (σ : Hp) (ρ : Hp)   (σ' : Hp) (hF : F_X2_copyFrom σ ρ  = some σ') : lm_C D z zo l yX2_copyFrom wsX2_copyFrom 2 61 [.ref (a 0), .ref (b 0)] (meW z a σ ++ meW z b ρ) none (meW z a σ' ++ meW z b ρ) := by
  refine lm_C.of (by decide) rfl (Nat.le_of_ble_eq_true rfl) (own := RX2) rfl ?_
  intro p e s m_ args below meth c C hr hk hA
  show lm_St p l e ({ frames := 2, cells := 0, slots := 0, locals := 61 }) s m_ args below meth c D (va_A (meW z a σ ++ meW z b ρ) s.heap.size) 2 0 0 (lm_End below D none (meW z a σ ++ meW z b ρ) (meW z a σ' ++ meW z b ρ) args s) false (meW z a σ ++ meW z b ρ) 0 [(0, .ref (a 0)), (1, .ref (b 0))] []
  rw [F_X2_copyFrom] at hF
  refine lm_aload_n C dX2_copyFrom_0 rfl 1 rfl rfl ?_
  refine lm_getf C (T := TX2) (N := 4) (v := .ref (b 1)) in2_X2_copyFrom 4 rfl rfl 0 (by decide) fl9_X2_copyFrom rfl rfl dX2_copyFrom_1 rfl ?_
  refine lm_aload_n C dX2_copyFrom_4 rfl 0 rfl rfl ?_
  refine lm_getf C (T := TX2) (N := 4) (v := .ref (a 1)) in2_X2_copyFrom 0 rfl rfl 0 (by decide) fl9_X2_copyFrom rfl rfl dX2_copyFrom_5 rfl ?_
  obtain ⟨σ1, eσ1, hF⟩ := lm_lte hF
  refine lm_callSN C (n := 2) (w' := (meW z a σ1 ++ meW z b ρ)) (wr := ((meW z a σ ++ meW z b ρ).eraseIdx 5).eraseIdx 1) hA (m_X6_copyNumbers D z zo l (b 1) (a 1) 10 (ρ 1) (σ 1) (by decide)) gX2_copyFrom_X6_copyNumbers_n21 rfl ini_X6_copyNumbers_X2_copyFrom sta_X6_copyNumbers_X2_copyFrom (by decide +kernel) ⟨Nat.le_of_ble_eq_true rfl, Nat.le_of_ble_eq_true rfl⟩ ⟨Nat.le_of_ble_eq_true rfl, Nat.le_of_ble_eq_true rfl⟩ (by decide +kernel) (lm_pick2 (meW z a σ ++ meW z b ρ) 5 1 _ _ rfl rfl) (by rw [← eσ1]; exact lm_pick2' 5 1 rfl rfl rfl) rfl rfl (Nat.le_of_ble_eq_true rfl) dX2_copyFrom_8 (st' := []) rfl rfl ?_
  refine lm_aload_n C dX2_copyFrom_11 rfl 1 rfl rfl ?_
  refine lm_getf C (T := TX2) (N := 4) (v := .ref (b 2)) in2_X2_copyFrom 4 rfl rfl 1 (by decide) fl15_X2_copyFrom rfl rfl dX2_copyFrom_12 rfl ?_
  refine lm_aload_n C dX2_copyFrom_15 rfl 0 rfl rfl ?_
  refine lm_getf C (T := TX2) (N := 4) (v := .ref (a 2)) in2_X2_copyFrom 0 rfl rfl 1 (by decide) fl15_X2_copyFrom rfl rfl dX2_copyFrom_16 rfl ?_
  obtain ⟨σ2, eσ2, hF⟩ := lm_lte hF
  refine lm_callSN C (n := 2) (w' := (meW z a σ2 ++ meW z b ρ)) (wr := ((meW z a σ1 ++ meW z b ρ).eraseIdx 6).eraseIdx 2) hA (m_X6_copyNumbers D z zo l (b 2) (a 2) 10 (ρ 2) (σ1 2) (by decide)) gX2_copyFrom_X6_copyNumbers_n21 rfl ini_X6_copyNumbers_X2_copyFrom sta_X6_copyNumbers_X2_copyFrom (by decide +kernel) ⟨Nat.le_of_ble_eq_true rfl, Nat.le_of_ble_eq_true rfl⟩ ⟨Nat.le_of_ble_eq_true rfl, Nat.le_of_ble_eq_true rfl⟩ (by decide +kernel) (lm_pick2 (meW z a σ1 ++ meW z b ρ) 6 2 _ _ rfl rfl) (by rw [← eσ2]; exact lm_pick2' 6 2 rfl rfl rfl) rfl rfl (Nat.le_of_ble_eq_true rfl) dX2_copyFrom_19 (st' := []) rfl rfl ?_
  refine lm_aload_n C dX2_copyFrom_22 rfl 1 rfl rfl ?_
  refine lm_getf C (T := TX2) (N := 4) (v := .ref (b 3)) in2_X2_copyFrom 4 rfl rfl 2 (by decide) fl18_X2_copyFrom rfl rfl dX2_copyFrom_23 rfl ?_
  refine lm_aload_n C dX2_copyFrom_26 rfl 0 rfl rfl ?_
  refine lm_getf C (T := TX2) (N := 4) (v := .ref (a 3)) in2_X2_copyFrom 0 rfl rfl 2 (by decide) fl18_X2_copyFrom rfl rfl dX2_copyFrom_27 rfl ?_
  obtain ⟨σ3, eσ3, hF⟩ := lm_lte hF
  refine lm_callSN C (n := 2) (w' := (meW z a σ3 ++ meW z b ρ)) (wr := ((meW z a σ2 ++ meW z b ρ).eraseIdx 7).eraseIdx 3) hA (m_X6_copyNumbers D z zo l (b 3) (a 3) 10 (ρ 3) (σ2 3) (by decide)) gX2_copyFrom_X6_copyNumbers_n21 rfl ini_X6_copyNumbers_X2_copyFrom sta_X6_copyNumbers_X2_copyFrom (by decide +kernel) ⟨Nat.le_of_ble_eq_true rfl, Nat.le_of_ble_eq_true rfl⟩ ⟨Nat.le_of_ble_eq_true rfl, Nat.le_of_ble_eq_true rfl⟩ (by decide +kernel) (lm_pick2 (meW z a σ2 ++ meW z b ρ) 7 3 _ _ rfl rfl) (by rw [← eσ3]; exact lm_pick2' 7 3 rfl rfl rfl) rfl rfl (Nat.le_of_ble_eq_true rfl) dX2_copyFrom_30 (st' := []) rfl rfl ?_
  refine lm_aload_n C dX2_copyFrom_33 rfl 0 rfl rfl ?_
  refine lm_aload_n C dX2_copyFrom_34 rfl 1 rfl rfl ?_
  refine lm_getf C (T := TX2) (N := 4) (v := .int (ρ 0 3)) in2_X2_copyFrom 4 rfl rfl 3 (by decide) fl25_X2_copyFrom rfl rfl dX2_copyFrom_35 rfl ?_
  obtain ⟨σ4, eσ4, hF⟩ := lm_lte hF
  refine lm_putf C (T := TX2) (N := 4) (ty := .int) (v := .int (ρ 0 3)) (w' := (meW z a σ4 ++ meW z b ρ)) in2_X2_copyFrom tyX2 tyX2_ok nmX2 0 rfl rfl 3 (by decide) fl25_X2_copyFrom rfl rfl rfl rfl rfl (Nat.le_of_ble_eq_true rfl) dX2_copyFrom_38 (by rw [← eσ4]; rfl) rfl ?_
  cases hF
  exact lm_vret C hr hk rfl rfl dX2_copyFrom_41
def F_X2_holds (σ : Hp) (x1 : Int32) : Option Int32 :=
  lm_br (x1 < 0)
   (some (0 : Int32))
   (lm_br ((10 : Int32) ≤ x1)
    (some (0 : Int32))
    (lm_gi x1 10
    (lm_br ((σ 1 x1.toNatClampNeg) ≤ 0)
     (some (0 : Int32))
     (some (1 : Int32)))))
theorem in2_X2_holds : ∀ w ∈ u_ws RX2 TX2 4, w ∈ wsX2_holds := by decide +kernel
theorem fl9_X2_holds : Cond.fieldLink RX2 9 "LoopMemo$Memo" "uses" "[I" ∈ wsX2_holds := by decide +kernel
set_option maxRecDepth 100000 in
set_option maxHeartbeats 4000000 in
theorem m_X2_holds (D : va_G) (z zo : ClassId) (l : Launch) (a : Nat → Nat) (σ : Hp) (x1 : Int32) (r : Int32)  (hF : F_X2_holds σ x1 = some r) : lm_CR D z zo l yX2_holds wsX2_holds 0 0 [.ref (a 0), .int x1] (meW z a σ) (some (.int r)) := by
  refine lm_CR.of (by decide) rfl (Nat.le_of_ble_eq_true rfl) (own := RX2) rfl ?_
  intro p e s m_ args below meth c C hr hk
  show lm_St p l e ({ frames := 0, cells := 0, slots := 0, locals := 0 }) s m_ args below meth c D (fun _ => False) 2 0 0 (lm_EndR below (some (.int r)) args s) true (meW z a σ) 0 [(0, .ref (a 0)), (1, .int x1)] []
  rw [F_X2_holds] at hF
  refine lm_iload_n C dX2_holds_0 rfl 1 rfl rfl ?_
  refine lm_if_lt C (tgt := 26) dX2_holds_1 (by decide) rfl (fun c1 => ?_) (fun c1 => ?_)
  · have hF := lm_brt hF c1
    refine lm_iconst C (v := (0 : Int32)) dX2_holds_26 (by decide) rfl ?_
    cases hF
    exact lm_zretR C hr hk rfl rfl dX2_holds_27
  · have hF := lm_brf hF c1
    refine lm_iload_n C dX2_holds_4 rfl 1 rfl rfl ?_
    refine lm_aload_n C dX2_holds_5 rfl 0 rfl rfl ?_
    refine lm_getf C (T := TX2) (N := 4) (v := .ref (a 1)) in2_X2_holds 0 rfl rfl 0 (by decide) fl9_X2_holds rfl rfl dX2_holds_6 rfl ?_
    refine lm_alen C (v := (10 : Int32)) 1 rfl rfl dX2_holds_9 rfl ?_
    refine lm_icmp_ge C (tgt := 26) dX2_holds_10 (by decide) rfl (fun c2 => ?_) (fun c2 => ?_)
    · have hF := lm_brt hF c2
      refine lm_iconst C (v := (0 : Int32)) dX2_holds_26 (by decide) rfl ?_
      cases hF
      exact lm_zretR C hr hk rfl rfl dX2_holds_27
    · have hF := lm_brf hF c2
      refine lm_aload_n C dX2_holds_13 rfl 0 rfl rfl ?_
      refine lm_getf C (T := TX2) (N := 4) (v := .ref (a 1)) in2_X2_holds 0 rfl rfl 0 (by decide) fl9_X2_holds rfl rfl dX2_holds_14 rfl ?_
      refine lm_iload_n C dX2_holds_17 rfl 1 rfl rfl ?_
      obtain ⟨b3, hF⟩ := lm_gie hF
      refine lm_iald C (v := (σ 1 x1.toNatClampNeg)) 1 rfl b3 rfl dX2_holds_18 rfl ?_
      refine lm_if_le C (tgt := 26) dX2_holds_19 (by decide) rfl (fun c4 => ?_) (fun c4 => ?_)
      · have hF := lm_brt hF c4
        refine lm_iconst C (v := (0 : Int32)) dX2_holds_26 (by decide) rfl ?_
        cases hF
        exact lm_zretR C hr hk rfl rfl dX2_holds_27
      · have hF := lm_brf hF c4
        refine lm_iconst C (v := (1 : Int32)) dX2_holds_22 (by decide) rfl ?_
        refine lm_goto C (tgt := 27) dX2_holds_23 (by decide) ?_
        cases hF
        exact lm_zretR C hr hk rfl rfl dX2_holds_27
def F_X2_uses (σ : Hp) (x1 : Int32) : Option Int32 :=
  lm_br (x1 < 0)
   (some (0 : Int32))
   (lm_br ((10 : Int32) ≤ x1)
    (some (0 : Int32))
    (lm_gi x1 10
    (some (σ 1 x1.toNatClampNeg))))
theorem in2_X2_uses : ∀ w ∈ u_ws RX2 TX2 4, w ∈ wsX2_uses := by decide +kernel
theorem fl9_X2_uses : Cond.fieldLink RX2 9 "LoopMemo$Memo" "uses" "[I" ∈ wsX2_uses := by decide +kernel
set_option maxRecDepth 100000 in
set_option maxHeartbeats 4000000 in
theorem m_X2_uses (D : va_G) (z zo : ClassId) (l : Launch) (a : Nat → Nat) (σ : Hp) (x1 : Int32) (r : Int32)  (hF : F_X2_uses σ x1 = some r) : lm_CR D z zo l yX2_uses wsX2_uses 0 0 [.ref (a 0), .int x1] (meW z a σ) (some (.int r)) := by
  refine lm_CR.of (by decide) rfl (Nat.le_of_ble_eq_true rfl) (own := RX2) rfl ?_
  intro p e s m_ args below meth c C hr hk
  show lm_St p l e ({ frames := 0, cells := 0, slots := 0, locals := 0 }) s m_ args below meth c D (fun _ => False) 2 0 0 (lm_EndR below (some (.int r)) args s) true (meW z a σ) 0 [(0, .ref (a 0)), (1, .int x1)] []
  rw [F_X2_uses] at hF
  refine lm_iload_n C dX2_uses_0 rfl 1 rfl rfl ?_
  refine lm_if_lt C (tgt := 22) dX2_uses_1 (by decide) rfl (fun c1 => ?_) (fun c1 => ?_)
  · have hF := lm_brt hF c1
    refine lm_iconst C (v := (0 : Int32)) dX2_uses_22 (by decide) rfl ?_
    cases hF
    exact lm_iretR C hr hk rfl dX2_uses_23
  · have hF := lm_brf hF c1
    refine lm_iload_n C dX2_uses_4 rfl 1 rfl rfl ?_
    refine lm_aload_n C dX2_uses_5 rfl 0 rfl rfl ?_
    refine lm_getf C (T := TX2) (N := 4) (v := .ref (a 1)) in2_X2_uses 0 rfl rfl 0 (by decide) fl9_X2_uses rfl rfl dX2_uses_6 rfl ?_
    refine lm_alen C (v := (10 : Int32)) 1 rfl rfl dX2_uses_9 rfl ?_
    refine lm_icmp_ge C (tgt := 22) dX2_uses_10 (by decide) rfl (fun c2 => ?_) (fun c2 => ?_)
    · have hF := lm_brt hF c2
      refine lm_iconst C (v := (0 : Int32)) dX2_uses_22 (by decide) rfl ?_
      cases hF
      exact lm_iretR C hr hk rfl dX2_uses_23
    · have hF := lm_brf hF c2
      refine lm_aload_n C dX2_uses_13 rfl 0 rfl rfl ?_
      refine lm_getf C (T := TX2) (N := 4) (v := .ref (a 1)) in2_X2_uses 0 rfl rfl 0 (by decide) fl9_X2_uses rfl rfl dX2_uses_14 rfl ?_
      refine lm_iload_n C dX2_uses_17 rfl 1 rfl rfl ?_
      obtain ⟨b3, hF⟩ := lm_gie hF
      refine lm_iald C (v := (σ 1 x1.toNatClampNeg)) 1 rfl b3 rfl dX2_uses_18 rfl ?_
      refine lm_goto C (tgt := 23) dX2_uses_19 (by decide) ?_
      cases hF
      exact lm_iretR C hr hk rfl dX2_uses_23
def F_X2_size_L4 : Nat → Hp → Int32 → Int32 → Option Int32
  | 0, _, _, _ => none
  | n + 1, σx, x1, x2 =>
    lm_br ((10 : Int32) ≤ x2)
     (some x1)
     (lm_gi x2 10
     (lm_br ((σx 1 x2.toNatClampNeg) ≤ 0)
      (F_X2_size_L4 n σx (x1 + (0 : Int32)) (x2 + (1 : Int32)))
      (F_X2_size_L4 n σx (x1 + (1 : Int32)) (x2 + (1 : Int32)))))
def F_X2_size (σ : Hp)  : Option Int32 :=
  F_X2_size_L4 1000 σ (0 : Int32) (0 : Int32)
theorem in2_X2_size : ∀ w ∈ u_ws RX2 TX2 4, w ∈ wsX2_size := by decide +kernel
theorem fl9_X2_size : Cond.fieldLink RX2 9 "LoopMemo$Memo" "uses" "[I" ∈ wsX2_size := by decide +kernel
set_option maxRecDepth 100000 in
set_option maxHeartbeats 4000000 in
theorem m_X2_size (D : va_G) (z zo : ClassId) (l : Launch) (a : Nat → Nat) (σ : Hp)  (r : Int32)  (hF : F_X2_size σ  = some r) : lm_CR D z zo l yX2_size wsX2_size 0 0 [.ref (a 0)] (meW z a σ) (some (.int r)) := by
  refine lm_CR.of (by decide) rfl (Nat.le_of_ble_eq_true rfl) (own := RX2) rfl ?_
  intro p e s m_ args below meth c C hr hk
  have loop_4 : ∀ (n : Nat) (σx : Hp) (x1 : Int32) (x2 : Int32), F_X2_size_L4 n σx x1 x2 = some r → lm_St p l e ({ frames := 0, cells := 0, slots := 0, locals := 0 }) s m_ args below meth c D (fun _ => False) 3 0 0 (lm_EndR below (some (.int r)) args s) true (meW z a σx) 4 [(0, .ref (a 0)), (1, .int x1), (2, .int x2)] [] := by
    intro n
    induction n with
    | zero => intro σx x1 x2 hF; cases (show (none : Option _) = some _ from hF)
    | succ n ih =>
      intro σx x1 x2 hF
      rw [F_X2_size_L4] at hF
      refine lm_iload_n C dX2_size_4 rfl 2 rfl rfl ?_
      refine lm_bipush C (v := (10 : Int32)) dX2_size_5 (by decide) rfl ?_
      refine lm_icmp_ge C (tgt := 33) dX2_size_7 (by decide) rfl (fun c1 => ?_) (fun c1 => ?_)
      · have hF := lm_brt hF c1
        refine lm_iload_n C dX2_size_33 rfl 1 rfl rfl ?_
        cases hF
        exact lm_iretR C hr hk rfl dX2_size_34
      · have hF := lm_brf hF c1
        refine lm_iload_n C dX2_size_10 rfl 1 rfl rfl ?_
        refine lm_aload_n C dX2_size_11 rfl 0 rfl rfl ?_
        refine lm_getf C (T := TX2) (N := 4) (v := .ref (a 1)) in2_X2_size 0 rfl rfl 0 (by decide) fl9_X2_size rfl rfl dX2_size_12 rfl ?_
        refine lm_iload_n C dX2_size_15 rfl 2 rfl rfl ?_
        obtain ⟨b2, hF⟩ := lm_gie hF
        refine lm_iald C (v := (σx 1 x2.toNatClampNeg)) 1 rfl b2 rfl dX2_size_16 rfl ?_
        refine lm_if_le C (tgt := 24) dX2_size_17 (by decide) rfl (fun c3 => ?_) (fun c3 => ?_)
        · have hF := lm_brt hF c3
          refine lm_iconst C (v := (0 : Int32)) dX2_size_24 (by decide) rfl ?_
          refine lm_iadd C dX2_size_25 rfl rfl ?_
          refine lm_istore_n C (lv' := [(0, .ref (a 0)), (1, .int (x1 + (0 : Int32))), (2, .int x2)]) dX2_size_26 rfl (by decide) rfl [1, 0, 2] rfl rfl ?_
          refine lm_iinc C (lv' := [(0, .ref (a 0)), (1, .int (x1 + (0 : Int32))), (2, .int (x2 + (1 : Int32)))]) (x2 + (1 : Int32)) dX2_size_27 2 rfl rfl (by decide) rfl [1, 2, 0] rfl rfl ?_
          refine lm_goto C (tgt := 4) dX2_size_30 (by decide) ?_
          exact ih σx (x1 + (0 : Int32)) (x2 + (1 : Int32)) hF
        · have hF := lm_brf hF c3
          refine lm_iconst C (v := (1 : Int32)) dX2_size_20 (by decide) rfl ?_
          refine lm_goto C (tgt := 25) dX2_size_21 (by decide) ?_
          refine lm_iadd C dX2_size_25 rfl rfl ?_
          refine lm_istore_n C (lv' := [(0, .ref (a 0)), (1, .int (x1 + (1 : Int32))), (2, .int x2)]) dX2_size_26 rfl (by decide) rfl [1, 0, 2] rfl rfl ?_
          refine lm_iinc C (lv' := [(0, .ref (a 0)), (1, .int (x1 + (1 : Int32))), (2, .int (x2 + (1 : Int32)))]) (x2 + (1 : Int32)) dX2_size_27 2 rfl rfl (by decide) rfl [1, 2, 0] rfl rfl ?_
          refine lm_goto C (tgt := 4) dX2_size_30 (by decide) ?_
          exact ih σx (x1 + (1 : Int32)) (x2 + (1 : Int32)) hF
  show lm_St p l e ({ frames := 0, cells := 0, slots := 0, locals := 0 }) s m_ args below meth c D (fun _ => False) 3 0 0 (lm_EndR below (some (.int r)) args s) true (meW z a σ) 0 [(0, .ref (a 0))] []
  rw [F_X2_size] at hF
  refine lm_iconst C (v := (0 : Int32)) dX2_size_0 (by decide) rfl ?_
  refine lm_istore_n C (lv' := [(0, .ref (a 0)), (1, .int (0 : Int32))]) dX2_size_1 rfl (by decide) rfl [1, 0] rfl rfl ?_
  refine lm_iconst C (v := (0 : Int32)) dX2_size_2 (by decide) rfl ?_
  refine lm_istore_n C (lv' := [(0, .ref (a 0)), (1, .int (0 : Int32)), (2, .int (0 : Int32))]) dX2_size_3 rfl (by decide) rfl [1, 2, 0] rfl rfl ?_
  exact loop_4 1000 σ (0 : Int32) (0 : Int32) hF
def F_X2_take (σ : Hp) (x1 : Int32) : Option (Hp) :=
  lm_br (x1 < 0)
   (some σ)
   (lm_br ((10 : Int32) ≤ x1)
    (some σ)
    (lm_lt (lm_u σ 0 3 ((σ 0 3) + (1 : Int32))) fun σ3 =>
    lm_gi x1 10
    (lm_lt (lm_u σ3 1 (x1.toNatClampNeg) (1 : Int32)) fun σ4 =>
    lm_gi x1 10
    (lm_lt (lm_u σ4 3 (x1.toNatClampNeg) (σ4 0 3)) fun σ5 =>
    lm_gi x1 10
    (lm_lt (lm_u σ5 2 (x1.toNatClampNeg) (σ5 0 3)) fun σ6 =>
    some σ6)))))
theorem in2_X2_take : ∀ w ∈ u_ws RX2 TX2 4, w ∈ wsX2_take := by decide +kernel
theorem fl25_X2_take : Cond.fieldLink RX2 25 "LoopMemo$Memo" "looks" "I" ∈ wsX2_take := by decide +kernel
theorem fl9_X2_take : Cond.fieldLink RX2 9 "LoopMemo$Memo" "uses" "[I" ∈ wsX2_take := by decide +kernel
theorem fl18_X2_take : Cond.fieldLink RX2 18 "LoopMemo$Memo" "firstLooks" "[I" ∈ wsX2_take := by decide +kernel
theorem fl15_X2_take : Cond.fieldLink RX2 15 "LoopMemo$Memo" "lastLooks" "[I" ∈ wsX2_take := by decide +kernel
set_option maxRecDepth 100000 in
set_option maxHeartbeats 4000000 in
theorem m_X2_take (D : va_G) (z zo : ClassId) (l : Launch) (a : Nat → Nat) (σ : Hp) (x1 : Int32)  (σ' : Hp) (hF : F_X2_take σ x1 = some σ') : lm_C D z zo l yX2_take wsX2_take 0 0 [.ref (a 0), .int x1] (meW z a σ) none (meW z a σ') := by
  refine lm_C.of (by decide) rfl (Nat.le_of_ble_eq_true rfl) (own := RX2) rfl ?_
  intro p e s m_ args below meth c C hr hk hA
  show lm_St p l e ({ frames := 0, cells := 0, slots := 0, locals := 0 }) s m_ args below meth c D (va_A (meW z a σ) s.heap.size) 2 0 0 (lm_End below D none (meW z a σ) (meW z a σ') args s) false (meW z a σ) 0 [(0, .ref (a 0)), (1, .int x1)] []
  rw [F_X2_take] at hF
  refine lm_iload_n C dX2_take_0 rfl 1 rfl rfl ?_
  refine lm_if_lt C (tgt := 47) dX2_take_1 (by decide) rfl (fun c1 => ?_) (fun c1 => ?_)
  · have hF := lm_brt hF c1
    cases hF
    exact lm_vret C hr hk rfl rfl dX2_take_47
  · have hF := lm_brf hF c1
    refine lm_iload_n C dX2_take_4 rfl 1 rfl rfl ?_
    refine lm_bipush C (v := (10 : Int32)) dX2_take_5 (by decide) rfl ?_
    refine lm_icmp_ge C (tgt := 47) dX2_take_7 (by decide) rfl (fun c2 => ?_) (fun c2 => ?_)
    · have hF := lm_brt hF c2
      cases hF
      exact lm_vret C hr hk rfl rfl dX2_take_47
    · have hF := lm_brf hF c2
      refine lm_aload_n C dX2_take_10 rfl 0 rfl rfl ?_
      refine lm_dup C dX2_take_11 rfl rfl ?_
      refine lm_getf C (T := TX2) (N := 4) (v := .int (σ 0 3)) in2_X2_take 0 rfl rfl 3 (by decide) fl25_X2_take rfl rfl dX2_take_12 rfl ?_
      refine lm_iconst C (v := (1 : Int32)) dX2_take_15 (by decide) rfl ?_
      refine lm_iadd C dX2_take_16 rfl rfl ?_
      obtain ⟨σ3, eσ3, hF⟩ := lm_lte hF
      refine lm_putf C (T := TX2) (N := 4) (ty := .int) (v := .int ((σ 0 3) + (1 : Int32))) (w' := (meW z a σ3)) in2_X2_take tyX2 tyX2_ok nmX2 0 rfl rfl 3 (by decide) fl25_X2_take rfl rfl rfl rfl rfl (Nat.le_of_ble_eq_true rfl) dX2_take_17 (by rw [← eσ3]; rfl) rfl ?_
      refine lm_aload_n C dX2_take_20 rfl 0 rfl rfl ?_
      refine lm_getf C (T := TX2) (N := 4) (v := .ref (a 1)) in2_X2_take 0 rfl rfl 0 (by decide) fl9_X2_take rfl rfl dX2_take_21 rfl ?_
      refine lm_iload_n C dX2_take_24 rfl 1 rfl rfl ?_
      refine lm_iconst C (v := (1 : Int32)) dX2_take_25 (by decide) rfl ?_
      obtain ⟨b9, hF⟩ := lm_gie hF
      obtain ⟨σ4, eσ4, hF⟩ := lm_lte hF
      refine lm_iast C (w' := (meW z a σ4)) 1 rfl b9 dX2_take_26 (by rw [← eσ4]; rfl) rfl ?_
      refine lm_aload_n C dX2_take_27 rfl 0 rfl rfl ?_
      refine lm_getf C (T := TX2) (N := 4) (v := .ref (a 3)) in2_X2_take 0 rfl rfl 2 (by decide) fl18_X2_take rfl rfl dX2_take_28 rfl ?_
      refine lm_iload_n C dX2_take_31 rfl 1 rfl rfl ?_
      refine lm_aload_n C dX2_take_32 rfl 0 rfl rfl ?_
      refine lm_getf C (T := TX2) (N := 4) (v := .int (σ4 0 3)) in2_X2_take 0 rfl rfl 3 (by decide) fl25_X2_take rfl rfl dX2_take_33 rfl ?_
      obtain ⟨b8, hF⟩ := lm_gie hF
      obtain ⟨σ5, eσ5, hF⟩ := lm_lte hF
      refine lm_iast C (w' := (meW z a σ5)) 3 rfl b8 dX2_take_36 (by rw [← eσ5]; rfl) rfl ?_
      refine lm_aload_n C dX2_take_37 rfl 0 rfl rfl ?_
      refine lm_getf C (T := TX2) (N := 4) (v := .ref (a 2)) in2_X2_take 0 rfl rfl 1 (by decide) fl15_X2_take rfl rfl dX2_take_38 rfl ?_
      refine lm_iload_n C dX2_take_41 rfl 1 rfl rfl ?_
      refine lm_aload_n C dX2_take_42 rfl 0 rfl rfl ?_
      refine lm_getf C (T := TX2) (N := 4) (v := .int (σ5 0 3)) in2_X2_take 0 rfl rfl 3 (by decide) fl25_X2_take rfl rfl dX2_take_43 rfl ?_
      obtain ⟨b7, hF⟩ := lm_gie hF
      obtain ⟨σ6, eσ6, hF⟩ := lm_lte hF
      refine lm_iast C (w' := (meW z a σ6)) 2 rfl b7 dX2_take_46 (by rw [← eσ6]; rfl) rfl ?_
      cases hF
      exact lm_vret C hr hk rfl rfl dX2_take_47
def F_X2_touch (σ : Hp) (x1 : Int32) : Option (Hp) :=
  lm_br (x1 < 0)
   (some σ)
   (lm_br ((10 : Int32) ≤ x1)
    (some σ)
    (lm_lt (lm_u σ 0 3 ((σ 0 3) + (1 : Int32))) fun σ3 =>
    lm_gi x1 10
    (lm_gi x1 10
    (lm_lt (lm_u σ3 1 (x1.toNatClampNeg) ((σ3 1 x1.toNatClampNeg) + (1 : Int32))) fun σ5 =>
    lm_gi x1 10
    (lm_lt (lm_u σ5 2 (x1.toNatClampNeg) (σ5 0 3)) fun σ6 =>
    some σ6)))))
theorem in2_X2_touch : ∀ w ∈ u_ws RX2 TX2 4, w ∈ wsX2_touch := by decide +kernel
theorem fl25_X2_touch : Cond.fieldLink RX2 25 "LoopMemo$Memo" "looks" "I" ∈ wsX2_touch := by decide +kernel
theorem fl9_X2_touch : Cond.fieldLink RX2 9 "LoopMemo$Memo" "uses" "[I" ∈ wsX2_touch := by decide +kernel
theorem fl15_X2_touch : Cond.fieldLink RX2 15 "LoopMemo$Memo" "lastLooks" "[I" ∈ wsX2_touch := by decide +kernel
set_option maxRecDepth 100000 in
set_option maxHeartbeats 4000000 in
theorem m_X2_touch (D : va_G) (z zo : ClassId) (l : Launch) (a : Nat → Nat) (σ : Hp) (x1 : Int32)  (σ' : Hp) (hF : F_X2_touch σ x1 = some σ') : lm_C D z zo l yX2_touch wsX2_touch 0 0 [.ref (a 0), .int x1] (meW z a σ) none (meW z a σ') := by
  refine lm_C.of (by decide) rfl (Nat.le_of_ble_eq_true rfl) (own := RX2) rfl ?_
  intro p e s m_ args below meth c C hr hk hA
  show lm_St p l e ({ frames := 0, cells := 0, slots := 0, locals := 0 }) s m_ args below meth c D (va_A (meW z a σ) s.heap.size) 2 0 0 (lm_End below D none (meW z a σ) (meW z a σ') args s) false (meW z a σ) 0 [(0, .ref (a 0)), (1, .int x1)] []
  rw [F_X2_touch] at hF
  refine lm_iload_n C dX2_touch_0 rfl 1 rfl rfl ?_
  refine lm_if_lt C (tgt := 40) dX2_touch_1 (by decide) rfl (fun c1 => ?_) (fun c1 => ?_)
  · have hF := lm_brt hF c1
    cases hF
    exact lm_vret C hr hk rfl rfl dX2_touch_40
  · have hF := lm_brf hF c1
    refine lm_iload_n C dX2_touch_4 rfl 1 rfl rfl ?_
    refine lm_bipush C (v := (10 : Int32)) dX2_touch_5 (by decide) rfl ?_
    refine lm_icmp_ge C (tgt := 40) dX2_touch_7 (by decide) rfl (fun c2 => ?_) (fun c2 => ?_)
    · have hF := lm_brt hF c2
      cases hF
      exact lm_vret C hr hk rfl rfl dX2_touch_40
    · have hF := lm_brf hF c2
      refine lm_aload_n C dX2_touch_10 rfl 0 rfl rfl ?_
      refine lm_dup C dX2_touch_11 rfl rfl ?_
      refine lm_getf C (T := TX2) (N := 4) (v := .int (σ 0 3)) in2_X2_touch 0 rfl rfl 3 (by decide) fl25_X2_touch rfl rfl dX2_touch_12 rfl ?_
      refine lm_iconst C (v := (1 : Int32)) dX2_touch_15 (by decide) rfl ?_
      refine lm_iadd C dX2_touch_16 rfl rfl ?_
      obtain ⟨σ3, eσ3, hF⟩ := lm_lte hF
      refine lm_putf C (T := TX2) (N := 4) (ty := .int) (v := .int ((σ 0 3) + (1 : Int32))) (w' := (meW z a σ3)) in2_X2_touch tyX2 tyX2_ok nmX2 0 rfl rfl 3 (by decide) fl25_X2_touch rfl rfl rfl rfl rfl (Nat.le_of_ble_eq_true rfl) dX2_touch_17 (by rw [← eσ3]; rfl) rfl ?_
      refine lm_aload_n C dX2_touch_20 rfl 0 rfl rfl ?_
      refine lm_getf C (T := TX2) (N := 4) (v := .ref (a 1)) in2_X2_touch 0 rfl rfl 0 (by decide) fl9_X2_touch rfl rfl dX2_touch_21 rfl ?_
      refine lm_iload_n C dX2_touch_24 rfl 1 rfl rfl ?_
      refine lm_dup2 C dX2_touch_25 rfl rfl rfl ?_
      obtain ⟨b4, hF⟩ := lm_gie hF
      refine lm_iald C (v := (σ3 1 x1.toNatClampNeg)) 1 rfl b4 rfl dX2_touch_26 rfl ?_
      refine lm_iconst C (v := (1 : Int32)) dX2_touch_27 (by decide) rfl ?_
      refine lm_iadd C dX2_touch_28 rfl rfl ?_
      obtain ⟨b8, hF⟩ := lm_gie hF
      obtain ⟨σ5, eσ5, hF⟩ := lm_lte hF
      refine lm_iast C (w' := (meW z a σ5)) 1 rfl b8 dX2_touch_29 (by rw [← eσ5]; rfl) rfl ?_
      refine lm_aload_n C dX2_touch_30 rfl 0 rfl rfl ?_
      refine lm_getf C (T := TX2) (N := 4) (v := .ref (a 2)) in2_X2_touch 0 rfl rfl 1 (by decide) fl15_X2_touch rfl rfl dX2_touch_31 rfl ?_
      refine lm_iload_n C dX2_touch_34 rfl 1 rfl rfl ?_
      refine lm_aload_n C dX2_touch_35 rfl 0 rfl rfl ?_
      refine lm_getf C (T := TX2) (N := 4) (v := .int (σ5 0 3)) in2_X2_touch 0 rfl rfl 3 (by decide) fl25_X2_touch rfl rfl dX2_touch_36 rfl ?_
      obtain ⟨b7, hF⟩ := lm_gie hF
      obtain ⟨σ6, eσ6, hF⟩ := lm_lte hF
      refine lm_iast C (w' := (meW z a σ6)) 2 rfl b7 dX2_touch_39 (by rw [← eσ6]; rfl) rfl ?_
      cases hF
      exact lm_vret C hr hk rfl rfl dX2_touch_40
def F_X2_lose (σ : Hp) (x1 : Int32) : Option (Hp) :=
  lm_br (x1 < 0)
   (some σ)
   (lm_br ((10 : Int32) ≤ x1)
    (some σ)
    (lm_gi x1 10
    (lm_lt (lm_u σ 1 (x1.toNatClampNeg) (0 : Int32)) fun σ3 =>
    some σ3)))
theorem in2_X2_lose : ∀ w ∈ u_ws RX2 TX2 4, w ∈ wsX2_lose := by decide +kernel
theorem fl9_X2_lose : Cond.fieldLink RX2 9 "LoopMemo$Memo" "uses" "[I" ∈ wsX2_lose := by decide +kernel
set_option maxRecDepth 100000 in
set_option maxHeartbeats 4000000 in
theorem m_X2_lose (D : va_G) (z zo : ClassId) (l : Launch) (a : Nat → Nat) (σ : Hp) (x1 : Int32)  (σ' : Hp) (hF : F_X2_lose σ x1 = some σ') : lm_C D z zo l yX2_lose wsX2_lose 0 0 [.ref (a 0), .int x1] (meW z a σ) none (meW z a σ') := by
  refine lm_C.of (by decide) rfl (Nat.le_of_ble_eq_true rfl) (own := RX2) rfl ?_
  intro p e s m_ args below meth c C hr hk hA
  show lm_St p l e ({ frames := 0, cells := 0, slots := 0, locals := 0 }) s m_ args below meth c D (va_A (meW z a σ) s.heap.size) 2 0 0 (lm_End below D none (meW z a σ) (meW z a σ') args s) false (meW z a σ) 0 [(0, .ref (a 0)), (1, .int x1)] []
  rw [F_X2_lose] at hF
  refine lm_iload_n C dX2_lose_0 rfl 1 rfl rfl ?_
  refine lm_if_lt C (tgt := 20) dX2_lose_1 (by decide) rfl (fun c1 => ?_) (fun c1 => ?_)
  · have hF := lm_brt hF c1
    cases hF
    exact lm_vret C hr hk rfl rfl dX2_lose_20
  · have hF := lm_brf hF c1
    refine lm_iload_n C dX2_lose_4 rfl 1 rfl rfl ?_
    refine lm_aload_n C dX2_lose_5 rfl 0 rfl rfl ?_
    refine lm_getf C (T := TX2) (N := 4) (v := .ref (a 1)) in2_X2_lose 0 rfl rfl 0 (by decide) fl9_X2_lose rfl rfl dX2_lose_6 rfl ?_
    refine lm_alen C (v := (10 : Int32)) 1 rfl rfl dX2_lose_9 rfl ?_
    refine lm_icmp_ge C (tgt := 20) dX2_lose_10 (by decide) rfl (fun c2 => ?_) (fun c2 => ?_)
    · have hF := lm_brt hF c2
      cases hF
      exact lm_vret C hr hk rfl rfl dX2_lose_20
    · have hF := lm_brf hF c2
      refine lm_aload_n C dX2_lose_13 rfl 0 rfl rfl ?_
      refine lm_getf C (T := TX2) (N := 4) (v := .ref (a 1)) in2_X2_lose 0 rfl rfl 0 (by decide) fl9_X2_lose rfl rfl dX2_lose_14 rfl ?_
      refine lm_iload_n C dX2_lose_17 rfl 1 rfl rfl ?_
      refine lm_iconst C (v := (0 : Int32)) dX2_lose_18 (by decide) rfl ?_
      obtain ⟨b4, hF⟩ := lm_gie hF
      obtain ⟨σ3, eσ3, hF⟩ := lm_lte hF
      refine lm_iast C (w' := (meW z a σ3)) 1 rfl b4 dX2_lose_19 (by rw [← eσ3]; rfl) rfl ?_
      cases hF
      exact lm_vret C hr hk rfl rfl dX2_lose_20
def F_X2_loseAll_L7 : Nat → Hp → Int32 → Int32 → Option (Int32 × (Hp))
  | 0, _, _, _ => none
  | n + 1, σx, x1, x2 =>
    lm_br ((10 : Int32) ≤ x2)
     (some (x1, σx))
     (lm_gi x2 10
     (lm_lt (lm_u σx 1 (x2.toNatClampNeg) (0 : Int32)) fun σ3 =>
     F_X2_loseAll_L7 n σ3 x1 (x2 + (1 : Int32))))
def F_X2_loseAll (σ : Hp)  : Option (Int32 × (Hp)) :=
  lm_bd (F_X2_size σ) fun r1 =>
  F_X2_loseAll_L7 1000 σ r1 (0 : Int32)
theorem in2_X2_loseAll : ∀ w ∈ u_ws RX2 TX2 4, w ∈ wsX2_loseAll := by decide +kernel
theorem fl9_X2_loseAll : Cond.fieldLink RX2 9 "LoopMemo$Memo" "uses" "[I" ∈ wsX2_loseAll := by decide +kernel
set_option maxRecDepth 100000 in
set_option maxHeartbeats 4000000 in
theorem m_X2_loseAll (D : va_G) (z zo : ClassId) (l : Launch) (a : Nat → Nat) (σ : Hp)  (r : Int32) (σ' : Hp) (hF : F_X2_loseAll σ  = some (r, σ')) : lm_C D z zo l yX2_loseAll wsX2_loseAll 1 22 [.ref (a 0)] (meW z a σ) (some (.int r)) (meW z a σ') := by
  refine lm_C.of (by decide) rfl (Nat.le_of_ble_eq_true rfl) (own := RX2) rfl ?_
  intro p e s m_ args below meth c C hr hk hA
  have loop_7 : ∀ (n : Nat) (σx : Hp) (x1 : Int32) (x2 : Int32), F_X2_loseAll_L7 n σx x1 x2 = some (r, σ') → lm_St p l e ({ frames := 1, cells := 0, slots := 0, locals := 22 }) s m_ args below meth c D (va_A (meW z a σ) s.heap.size) 3 0 0 (lm_End below D (some (.int r)) (meW z a σ) (meW z a σ') args s) false (meW z a σx) 7 [(0, .ref (a 0)), (1, .int x1), (2, .int x2)] [] := by
    intro n
    induction n with
    | zero => intro σx x1 x2 hF; cases (show (none : Option _) = some _ from hF)
    | succ n ih =>
      intro σx x1 x2 hF
      rw [F_X2_loseAll_L7] at hF
      refine lm_iload_n C dX2_loseAll_7 rfl 2 rfl rfl ?_
      refine lm_bipush C (v := (10 : Int32)) dX2_loseAll_8 (by decide) rfl ?_
      refine lm_icmp_ge C (tgt := 26) dX2_loseAll_10 (by decide) rfl (fun c2 => ?_) (fun c2 => ?_)
      · have hF := lm_brt hF c2
        refine lm_iload_n C dX2_loseAll_26 rfl 1 rfl rfl ?_
        cases hF
        exact lm_iret C hr hk rfl rfl dX2_loseAll_27
      · have hF := lm_brf hF c2
        refine lm_aload_n C dX2_loseAll_13 rfl 0 rfl rfl ?_
        refine lm_getf C (T := TX2) (N := 4) (v := .ref (a 1)) in2_X2_loseAll 0 rfl rfl 0 (by decide) fl9_X2_loseAll rfl rfl dX2_loseAll_14 rfl ?_
        refine lm_iload_n C dX2_loseAll_17 rfl 2 rfl rfl ?_
        refine lm_iconst C (v := (0 : Int32)) dX2_loseAll_18 (by decide) rfl ?_
        obtain ⟨b4, hF⟩ := lm_gie hF
        obtain ⟨σ3, eσ3, hF⟩ := lm_lte hF
        refine lm_iast C (w' := (meW z a σ3)) 1 rfl b4 dX2_loseAll_19 (by rw [← eσ3]; rfl) rfl ?_
        refine lm_iinc C (lv' := [(0, .ref (a 0)), (1, .int x1), (2, .int (x2 + (1 : Int32)))]) (x2 + (1 : Int32)) dX2_loseAll_20 2 rfl rfl (by decide) rfl [1, 2, 0] rfl rfl ?_
        refine lm_goto C (tgt := 7) dX2_loseAll_23 (by decide) ?_
        exact ih σ3 x1 (x2 + (1 : Int32)) hF
  show lm_St p l e ({ frames := 1, cells := 0, slots := 0, locals := 22 }) s m_ args below meth c D (va_A (meW z a σ) s.heap.size) 3 0 0 (lm_End below D (some (.int r)) (meW z a σ) (meW z a σ') args s) false (meW z a σ) 0 [(0, .ref (a 0))] []
  rw [F_X2_loseAll] at hF
  refine lm_aload_n C dX2_loseAll_0 rfl 0 rfl rfl ?_
  obtain ⟨r1, qr1, hF⟩ := lm_bde hF
  refine lm_callVR C (n := 0) (ci := 2) (m_X2_size D z zo l a σ  r1 qr1) gX2_loseAll_X2_size rfl (by decide +kernel) ⟨Nat.le_of_ble_eq_true rfl, Nat.le_of_ble_eq_true rfl⟩ ⟨Nat.le_of_ble_eq_true rfl, Nat.le_of_ble_eq_true rfl⟩ 0 rfl rfl (fun _ h => h) rfl rfl (Nat.le_of_ble_eq_true rfl) dX2_loseAll_1 (st' := [.int r1]) rfl rfl ?_
  refine lm_istore_n C (lv' := [(0, .ref (a 0)), (1, .int r1)]) dX2_loseAll_4 rfl (by decide) rfl [1, 0] rfl rfl ?_
  refine lm_iconst C (v := (0 : Int32)) dX2_loseAll_5 (by decide) rfl ?_
  refine lm_istore_n C (lv' := [(0, .ref (a 0)), (1, .int r1), (2, .int (0 : Int32))]) dX2_loseAll_6 rfl (by decide) rfl [1, 2, 0] rfl rfl ?_
  exact loop_7 1000 σ r1 (0 : Int32) hF
def F_X2_rank (σ : Hp) (x1 x2 : Int32) : Option Int64 :=
  lm_br (x1 < 0)
   (some (0 : Int64))
   (lm_br (x1 < (10 : Int32))
    (lm_br (¬ x2 = (2 : Int32))
     (lm_br (¬ x2 = (1 : Int32))
      (lm_gi x1 10
      (some ((0 : Int64) + ((σ 2 x1.toNatClampNeg)).toInt64)))
      (lm_gi x1 10
      (lm_gi x1 10
      (some ((((σ 1 x1.toNatClampNeg)).toInt64 <<< (((32 : Int32)).toInt64 &&& 63)) + ((σ 2 x1.toNatClampNeg)).toInt64)))))
     (lm_gi x1 10
     (some ((σ 3 x1.toNatClampNeg)).toInt64)))
    (some (0 : Int64)))
theorem in2_X2_rank : ∀ w ∈ u_ws RX2 TX2 4, w ∈ wsX2_rank := by decide +kernel
theorem fl15_X2_rank : Cond.fieldLink RX2 15 "LoopMemo$Memo" "lastLooks" "[I" ∈ wsX2_rank := by decide +kernel
theorem fl9_X2_rank : Cond.fieldLink RX2 9 "LoopMemo$Memo" "uses" "[I" ∈ wsX2_rank := by decide +kernel
theorem fl18_X2_rank : Cond.fieldLink RX2 18 "LoopMemo$Memo" "firstLooks" "[I" ∈ wsX2_rank := by decide +kernel
set_option maxRecDepth 100000 in
set_option maxHeartbeats 4000000 in
theorem m_X2_rank (D : va_G) (z zo : ClassId) (l : Launch) (a : Nat → Nat) (σ : Hp) (x1 x2 : Int32) (r : Int64)  (hF : F_X2_rank σ x1 x2 = some r) : lm_CR D z zo l yX2_rank wsX2_rank 0 0 [.ref (a 0), .int x1, .int x2] (meW z a σ) (some (.long r)) := by
  refine lm_CR.of (by decide) rfl (Nat.le_of_ble_eq_true rfl) (own := RX2) rfl ?_
  intro p e s m_ args below meth c C hr hk
  show lm_St p l e ({ frames := 0, cells := 0, slots := 0, locals := 0 }) s m_ args below meth c D (fun _ => False) 3 0 0 (lm_EndR below (some (.long r)) args s) true (meW z a σ) 0 [(0, .ref (a 0)), (1, .int x1), (2, .int x2)] []
  rw [F_X2_rank] at hF
  refine lm_iload_n C dX2_rank_0 rfl 1 rfl rfl ?_
  refine lm_if_lt C (tgt := 10) dX2_rank_1 (by decide) rfl (fun c1 => ?_) (fun c1 => ?_)
  · have hF := lm_brt hF c1
    refine lm_lconst C (v := (0 : Int64)) dX2_rank_10 (by decide) rfl ?_
    cases hF
    exact lm_lretR C hr hk rfl dX2_rank_11
  · have hF := lm_brf hF c1
    refine lm_iload_n C dX2_rank_4 rfl 1 rfl rfl ?_
    refine lm_bipush C (v := (10 : Int32)) dX2_rank_5 (by decide) rfl ?_
    refine lm_icmp_lt C (tgt := 12) dX2_rank_7 (by decide) rfl (fun c2 => ?_) (fun c2 => ?_)
    · have hF := lm_brt hF c2
      refine lm_iload_n C dX2_rank_12 rfl 2 rfl rfl ?_
      refine lm_iconst C (v := (2 : Int32)) dX2_rank_13 (by decide) rfl ?_
      refine lm_icmp_ne C (tgt := 25) dX2_rank_14 (by decide) rfl (fun c3 => ?_) (fun c3 => ?_)
      · have hF := lm_brt hF c3
        refine lm_iload_n C dX2_rank_25 rfl 2 rfl rfl ?_
        refine lm_iconst C (v := (1 : Int32)) dX2_rank_26 (by decide) rfl ?_
        refine lm_icmp_ne C (tgt := 43) dX2_rank_27 (by decide) rfl (fun c4 => ?_) (fun c4 => ?_)
        · have hF := lm_brt hF c4
          refine lm_lconst C (v := (0 : Int64)) dX2_rank_43 (by decide) rfl ?_
          refine lm_aload_n C dX2_rank_44 rfl 0 rfl rfl ?_
          refine lm_getf C (T := TX2) (N := 4) (v := .ref (a 2)) in2_X2_rank 0 rfl rfl 1 (by decide) fl15_X2_rank rfl rfl dX2_rank_45 rfl ?_
          refine lm_iload_n C dX2_rank_48 rfl 1 rfl rfl ?_
          obtain ⟨b5, hF⟩ := lm_gie hF
          refine lm_iald C (v := (σ 2 x1.toNatClampNeg)) 2 rfl b5 rfl dX2_rank_49 rfl ?_
          refine lm_i2l C dX2_rank_50 rfl rfl ?_
          refine lm_ladd C dX2_rank_51 rfl rfl ?_
          cases hF
          exact lm_lretR C hr hk rfl dX2_rank_52
        · have hF := lm_brf hF c4
          refine lm_aload_n C dX2_rank_30 rfl 0 rfl rfl ?_
          refine lm_getf C (T := TX2) (N := 4) (v := .ref (a 1)) in2_X2_rank 0 rfl rfl 0 (by decide) fl9_X2_rank rfl rfl dX2_rank_31 rfl ?_
          refine lm_iload_n C dX2_rank_34 rfl 1 rfl rfl ?_
          obtain ⟨b6, hF⟩ := lm_gie hF
          refine lm_iald C (v := (σ 1 x1.toNatClampNeg)) 1 rfl b6 rfl dX2_rank_35 rfl ?_
          refine lm_i2l C dX2_rank_36 rfl rfl ?_
          refine lm_bipush C (v := (32 : Int32)) dX2_rank_37 (by decide) rfl ?_
          refine lm_lshl C dX2_rank_39 rfl rfl ?_
          refine lm_goto C (tgt := 44) dX2_rank_40 (by decide) ?_
          refine lm_aload_n C dX2_rank_44 rfl 0 rfl rfl ?_
          refine lm_getf C (T := TX2) (N := 4) (v := .ref (a 2)) in2_X2_rank 0 rfl rfl 1 (by decide) fl15_X2_rank rfl rfl dX2_rank_45 rfl ?_
          refine lm_iload_n C dX2_rank_48 rfl 1 rfl rfl ?_
          obtain ⟨b7, hF⟩ := lm_gie hF
          refine lm_iald C (v := (σ 2 x1.toNatClampNeg)) 2 rfl b7 rfl dX2_rank_49 rfl ?_
          refine lm_i2l C dX2_rank_50 rfl rfl ?_
          refine lm_ladd C dX2_rank_51 rfl rfl ?_
          cases hF
          exact lm_lretR C hr hk rfl dX2_rank_52
      · have hF := lm_brf hF c3
        refine lm_aload_n C dX2_rank_17 rfl 0 rfl rfl ?_
        refine lm_getf C (T := TX2) (N := 4) (v := .ref (a 3)) in2_X2_rank 0 rfl rfl 2 (by decide) fl18_X2_rank rfl rfl dX2_rank_18 rfl ?_
        refine lm_iload_n C dX2_rank_21 rfl 1 rfl rfl ?_
        obtain ⟨b8, hF⟩ := lm_gie hF
        refine lm_iald C (v := (σ 3 x1.toNatClampNeg)) 3 rfl b8 rfl dX2_rank_22 rfl ?_
        refine lm_i2l C dX2_rank_23 rfl rfl ?_
        cases hF
        exact lm_lretR C hr hk rfl dX2_rank_24
    · have hF := lm_brf hF c2
      refine lm_lconst C (v := (0 : Int64)) dX2_rank_10 (by decide) rfl ?_
      cases hF
      exact lm_lretR C hr hk rfl dX2_rank_11
def F_X2_firstOut_L5 : Nat → Hp → Int32 → Int32 → Int32 → Int32 → Option Int32
  | 0, _, _, _, _, _ => none
  | n + 1, σx, x1, x2, x3, x4 =>
    lm_br ((10 : Int32) ≤ x4)
     (some x3)
     (lm_gi x4 10
     (lm_br ((σx 1 x4.toNatClampNeg) ≤ 0)
      (F_X2_firstOut_L5 n σx x1 x2 x3 (x4 + (1 : Int32)))
      (lm_br (x4 = x2)
       (F_X2_firstOut_L5 n σx x1 x2 x3 (x4 + (1 : Int32)))
       (lm_br (x3 = (-1 : Int32))
        (F_X2_firstOut_L5 n σx x1 x2 x4 (x4 + (1 : Int32)))
        (lm_bd (F_X2_rank σx x4 x1) fun r6 =>
        lm_bd (F_X2_rank σx x3 x1) fun r7 =>
        lm_br (0 ≤ (lg_cmp r6 r7))
         (F_X2_firstOut_L5 n σx x1 x2 x3 (x4 + (1 : Int32)))
         (F_X2_firstOut_L5 n σx x1 x2 x4 (x4 + (1 : Int32))))))))
def F_X2_firstOut (σ : Hp) (x1 x2 : Int32) : Option Int32 :=
  F_X2_firstOut_L5 1000 σ x1 x2 (-1 : Int32) (0 : Int32)
theorem in2_X2_firstOut : ∀ w ∈ u_ws RX2 TX2 4, w ∈ wsX2_firstOut := by decide +kernel
theorem fl9_X2_firstOut : Cond.fieldLink RX2 9 "LoopMemo$Memo" "uses" "[I" ∈ wsX2_firstOut := by decide +kernel
set_option maxRecDepth 100000 in
set_option maxHeartbeats 4000000 in
theorem m_X2_firstOut (D : va_G) (z zo : ClassId) (l : Launch) (a : Nat → Nat) (σ : Hp) (x1 x2 : Int32) (r : Int32)  (hF : F_X2_firstOut σ x1 x2 = some r) : lm_CR D z zo l yX2_firstOut wsX2_firstOut 1 22 [.ref (a 0), .int x1, .int x2] (meW z a σ) (some (.int r)) := by
  refine lm_CR.of (by decide) rfl (Nat.le_of_ble_eq_true rfl) (own := RX2) rfl ?_
  intro p e s m_ args below meth c C hr hk
  have loop_5 : ∀ (n : Nat) (σx : Hp) (x1 : Int32) (x2 : Int32) (x3 : Int32) (x4 : Int32), F_X2_firstOut_L5 n σx x1 x2 x3 x4 = some r → lm_St p l e ({ frames := 1, cells := 0, slots := 0, locals := 22 }) s m_ args below meth c D (fun _ => False) 5 0 0 (lm_EndR below (some (.int r)) args s) true (meW z a σx) 5 [(0, .ref (a 0)), (1, .int x1), (2, .int x2), (3, .int x3), (4, .int x4)] [] := by
    intro n
    induction n with
    | zero => intro σx x1 x2 x3 x4 hF; cases (show (none : Option _) = some _ from hF)
    | succ n ih =>
      intro σx x1 x2 x3 x4 hF
      rw [F_X2_firstOut_L5] at hF
      refine lm_iload C dX2_firstOut_5 4 rfl rfl ?_
      refine lm_bipush C (v := (10 : Int32)) dX2_firstOut_7 (by decide) rfl ?_
      refine lm_icmp_ge C (tgt := 59) dX2_firstOut_9 (by decide) rfl (fun c1 => ?_) (fun c1 => ?_)
      · have hF := lm_brt hF c1
        refine lm_iload_n C dX2_firstOut_59 rfl 3 rfl rfl ?_
        cases hF
        exact lm_iretR C hr hk rfl dX2_firstOut_60
      · have hF := lm_brf hF c1
        refine lm_aload_n C dX2_firstOut_12 rfl 0 rfl rfl ?_
        refine lm_getf C (T := TX2) (N := 4) (v := .ref (a 1)) in2_X2_firstOut 0 rfl rfl 0 (by decide) fl9_X2_firstOut rfl rfl dX2_firstOut_13 rfl ?_
        refine lm_iload C dX2_firstOut_16 4 rfl rfl ?_
        obtain ⟨b2, hF⟩ := lm_gie hF
        refine lm_iald C (v := (σx 1 x4.toNatClampNeg)) 1 rfl b2 rfl dX2_firstOut_18 rfl ?_
        refine lm_if_le C (tgt := 53) dX2_firstOut_19 (by decide) rfl (fun c3 => ?_) (fun c3 => ?_)
        · have hF := lm_brt hF c3
          refine lm_iinc C (lv' := [(0, .ref (a 0)), (1, .int x1), (2, .int x2), (3, .int x3), (4, .int (x4 + (1 : Int32)))]) (x4 + (1 : Int32)) dX2_firstOut_53 4 rfl rfl (by decide) rfl [1, 2, 3, 4, 0] rfl rfl ?_
          refine lm_goto C (tgt := 5) dX2_firstOut_56 (by decide) ?_
          exact ih σx x1 x2 x3 (x4 + (1 : Int32)) hF
        · have hF := lm_brf hF c3
          refine lm_iload C dX2_firstOut_22 4 rfl rfl ?_
          refine lm_iload_n C dX2_firstOut_24 rfl 2 rfl rfl ?_
          refine lm_icmp_eq C (tgt := 53) dX2_firstOut_25 (by decide) rfl (fun c4 => ?_) (fun c4 => ?_)
          · have hF := lm_brt hF c4
            refine lm_iinc C (lv' := [(0, .ref (a 0)), (1, .int x1), (2, .int x2), (3, .int x3), (4, .int (x4 + (1 : Int32)))]) (x4 + (1 : Int32)) dX2_firstOut_53 4 rfl rfl (by decide) rfl [1, 2, 3, 4, 0] rfl rfl ?_
            refine lm_goto C (tgt := 5) dX2_firstOut_56 (by decide) ?_
            exact ih σx x1 x2 x3 (x4 + (1 : Int32)) hF
          · have hF := lm_brf hF c4
            refine lm_iload_n C dX2_firstOut_28 rfl 3 rfl rfl ?_
            refine lm_iconst C (v := (-1 : Int32)) dX2_firstOut_29 (by decide) rfl ?_
            refine lm_icmp_eq C (tgt := 50) dX2_firstOut_30 (by decide) rfl (fun c5 => ?_) (fun c5 => ?_)
            · have hF := lm_brt hF c5
              refine lm_iload C dX2_firstOut_50 4 rfl rfl ?_
              refine lm_istore_n C (lv' := [(0, .ref (a 0)), (1, .int x1), (2, .int x2), (3, .int x4), (4, .int x4)]) dX2_firstOut_52 rfl (by decide) rfl [1, 2, 3, 0, 4] rfl rfl ?_
              refine lm_iinc C (lv' := [(0, .ref (a 0)), (1, .int x1), (2, .int x2), (3, .int x4), (4, .int (x4 + (1 : Int32)))]) (x4 + (1 : Int32)) dX2_firstOut_53 4 rfl rfl (by decide) rfl [1, 2, 3, 4, 0] rfl rfl ?_
              refine lm_goto C (tgt := 5) dX2_firstOut_56 (by decide) ?_
              exact ih σx x1 x2 x4 (x4 + (1 : Int32)) hF
            · have hF := lm_brf hF c5
              refine lm_aload_n C dX2_firstOut_33 rfl 0 rfl rfl ?_
              refine lm_iload C dX2_firstOut_34 4 rfl rfl ?_
              refine lm_iload_n C dX2_firstOut_36 rfl 1 rfl rfl ?_
              obtain ⟨r6, qr6, hF⟩ := lm_bde hF
              refine lm_callVR C (n := 2) (ci := 2) (m_X2_rank D z zo l a σx x4 x1 r6 qr6) gX2_firstOut_X2_rank rfl (by decide +kernel) ⟨Nat.le_of_ble_eq_true rfl, Nat.le_of_ble_eq_true rfl⟩ ⟨Nat.le_of_ble_eq_true rfl, Nat.le_of_ble_eq_true rfl⟩ 0 rfl rfl (fun _ h => h) rfl rfl (Nat.le_of_ble_eq_true rfl) dX2_firstOut_37 (st' := [.long r6]) rfl rfl ?_
              refine lm_aload_n C dX2_firstOut_40 rfl 0 rfl rfl ?_
              refine lm_iload_n C dX2_firstOut_41 rfl 3 rfl rfl ?_
              refine lm_iload_n C dX2_firstOut_42 rfl 1 rfl rfl ?_
              obtain ⟨r7, qr7, hF⟩ := lm_bde hF
              refine lm_callVR C (n := 2) (ci := 2) (m_X2_rank D z zo l a σx x3 x1 r7 qr7) gX2_firstOut_X2_rank rfl (by decide +kernel) ⟨Nat.le_of_ble_eq_true rfl, Nat.le_of_ble_eq_true rfl⟩ ⟨Nat.le_of_ble_eq_true rfl, Nat.le_of_ble_eq_true rfl⟩ 0 rfl rfl (fun _ h => h) rfl rfl (Nat.le_of_ble_eq_true rfl) dX2_firstOut_43 (st' := [.long r7, .long r6]) rfl rfl ?_
              refine lm_lcmp C dX2_firstOut_46 rfl rfl ?_
              refine lm_if_ge C (tgt := 53) dX2_firstOut_47 (by decide) rfl (fun c8 => ?_) (fun c8 => ?_)
              · have hF := lm_brt hF c8
                refine lm_iinc C (lv' := [(0, .ref (a 0)), (1, .int x1), (2, .int x2), (3, .int x3), (4, .int (x4 + (1 : Int32)))]) (x4 + (1 : Int32)) dX2_firstOut_53 4 rfl rfl (by decide) rfl [1, 2, 3, 4, 0] rfl rfl ?_
                refine lm_goto C (tgt := 5) dX2_firstOut_56 (by decide) ?_
                exact ih σx x1 x2 x3 (x4 + (1 : Int32)) hF
              · have hF := lm_brf hF c8
                refine lm_iload C dX2_firstOut_50 4 rfl rfl ?_
                refine lm_istore_n C (lv' := [(0, .ref (a 0)), (1, .int x1), (2, .int x2), (3, .int x4), (4, .int x4)]) dX2_firstOut_52 rfl (by decide) rfl [1, 2, 3, 0, 4] rfl rfl ?_
                refine lm_iinc C (lv' := [(0, .ref (a 0)), (1, .int x1), (2, .int x2), (3, .int x4), (4, .int (x4 + (1 : Int32)))]) (x4 + (1 : Int32)) dX2_firstOut_53 4 rfl rfl (by decide) rfl [1, 2, 3, 4, 0] rfl rfl ?_
                refine lm_goto C (tgt := 5) dX2_firstOut_56 (by decide) ?_
                exact ih σx x1 x2 x4 (x4 + (1 : Int32)) hF
  show lm_St p l e ({ frames := 1, cells := 0, slots := 0, locals := 22 }) s m_ args below meth c D (fun _ => False) 5 0 0 (lm_EndR below (some (.int r)) args s) true (meW z a σ) 0 [(0, .ref (a 0)), (1, .int x1), (2, .int x2)] []
  rw [F_X2_firstOut] at hF
  refine lm_iconst C (v := (-1 : Int32)) dX2_firstOut_0 (by decide) rfl ?_
  refine lm_istore_n C (lv' := [(0, .ref (a 0)), (1, .int x1), (2, .int x2), (3, .int (-1 : Int32))]) dX2_firstOut_1 rfl (by decide) rfl [1, 2, 3, 0] rfl rfl ?_
  refine lm_iconst C (v := (0 : Int32)) dX2_firstOut_2 (by decide) rfl ?_
  refine lm_istore C (lv' := [(0, .ref (a 0)), (1, .int x1), (2, .int x2), (3, .int (-1 : Int32)), (4, .int (0 : Int32))]) dX2_firstOut_3 (by decide) rfl [1, 2, 3, 4, 0] rfl rfl ?_
  exact loop_5 1000 σ x1 x2 (-1 : Int32) (0 : Int32) hF
def F_X2_placeOf_L5 : Nat → Hp → Int32 → Int32 → Int32 → Int32 → Option Int32
  | 0, _, _, _, _, _ => none
  | n + 1, σx, x1, x2, x3, x4 =>
    lm_br ((10 : Int32) ≤ x4)
     (some x3)
     (lm_gi x4 10
     (lm_br ((σx 1 x4.toNatClampNeg) ≤ 0)
      (F_X2_placeOf_L5 n σx x1 x2 x3 (x4 + (1 : Int32)))
      (lm_bd (F_X2_rank σx x4 x2) fun r4 =>
      lm_bd (F_X2_rank σx x1 x2) fun r5 =>
      lm_br (0 ≤ (lg_cmp r4 r5))
       (F_X2_placeOf_L5 n σx x1 x2 x3 (x4 + (1 : Int32)))
       (F_X2_placeOf_L5 n σx x1 x2 (x3 + (1 : Int32)) (x4 + (1 : Int32))))))
def F_X2_placeOf (σ : Hp) (x1 x2 : Int32) : Option Int32 :=
  F_X2_placeOf_L5 1000 σ x1 x2 (0 : Int32) (0 : Int32)
theorem in2_X2_placeOf : ∀ w ∈ u_ws RX2 TX2 4, w ∈ wsX2_placeOf := by decide +kernel
theorem fl9_X2_placeOf : Cond.fieldLink RX2 9 "LoopMemo$Memo" "uses" "[I" ∈ wsX2_placeOf := by decide +kernel
set_option maxRecDepth 100000 in
set_option maxHeartbeats 4000000 in
theorem m_X2_placeOf (D : va_G) (z zo : ClassId) (l : Launch) (a : Nat → Nat) (σ : Hp) (x1 x2 : Int32) (r : Int32)  (hF : F_X2_placeOf σ x1 x2 = some r) : lm_CR D z zo l yX2_placeOf wsX2_placeOf 1 22 [.ref (a 0), .int x1, .int x2] (meW z a σ) (some (.int r)) := by
  refine lm_CR.of (by decide) rfl (Nat.le_of_ble_eq_true rfl) (own := RX2) rfl ?_
  intro p e s m_ args below meth c C hr hk
  have loop_5 : ∀ (n : Nat) (σx : Hp) (x1 : Int32) (x2 : Int32) (x3 : Int32) (x4 : Int32), F_X2_placeOf_L5 n σx x1 x2 x3 x4 = some r → lm_St p l e ({ frames := 1, cells := 0, slots := 0, locals := 22 }) s m_ args below meth c D (fun _ => False) 5 0 0 (lm_EndR below (some (.int r)) args s) true (meW z a σx) 5 [(0, .ref (a 0)), (1, .int x1), (2, .int x2), (3, .int x3), (4, .int x4)] [] := by
    intro n
    induction n with
    | zero => intro σx x1 x2 x3 x4 hF; cases (show (none : Option _) = some _ from hF)
    | succ n ih =>
      intro σx x1 x2 x3 x4 hF
      rw [F_X2_placeOf_L5] at hF
      refine lm_iload C dX2_placeOf_5 4 rfl rfl ?_
      refine lm_bipush C (v := (10 : Int32)) dX2_placeOf_7 (by decide) rfl ?_
      refine lm_icmp_ge C (tgt := 48) dX2_placeOf_9 (by decide) rfl (fun c1 => ?_) (fun c1 => ?_)
      · have hF := lm_brt hF c1
        refine lm_iload_n C dX2_placeOf_48 rfl 3 rfl rfl ?_
        cases hF
        exact lm_iretR C hr hk rfl dX2_placeOf_49
      · have hF := lm_brf hF c1
        refine lm_aload_n C dX2_placeOf_12 rfl 0 rfl rfl ?_
        refine lm_getf C (T := TX2) (N := 4) (v := .ref (a 1)) in2_X2_placeOf 0 rfl rfl 0 (by decide) fl9_X2_placeOf rfl rfl dX2_placeOf_13 rfl ?_
        refine lm_iload C dX2_placeOf_16 4 rfl rfl ?_
        obtain ⟨b2, hF⟩ := lm_gie hF
        refine lm_iald C (v := (σx 1 x4.toNatClampNeg)) 1 rfl b2 rfl dX2_placeOf_18 rfl ?_
        refine lm_if_le C (tgt := 42) dX2_placeOf_19 (by decide) rfl (fun c3 => ?_) (fun c3 => ?_)
        · have hF := lm_brt hF c3
          refine lm_iinc C (lv' := [(0, .ref (a 0)), (1, .int x1), (2, .int x2), (3, .int x3), (4, .int (x4 + (1 : Int32)))]) (x4 + (1 : Int32)) dX2_placeOf_42 4 rfl rfl (by decide) rfl [1, 2, 3, 4, 0] rfl rfl ?_
          refine lm_goto C (tgt := 5) dX2_placeOf_45 (by decide) ?_
          exact ih σx x1 x2 x3 (x4 + (1 : Int32)) hF
        · have hF := lm_brf hF c3
          refine lm_aload_n C dX2_placeOf_22 rfl 0 rfl rfl ?_
          refine lm_iload C dX2_placeOf_23 4 rfl rfl ?_
          refine lm_iload_n C dX2_placeOf_25 rfl 2 rfl rfl ?_
          obtain ⟨r4, qr4, hF⟩ := lm_bde hF
          refine lm_callVR C (n := 2) (ci := 2) (m_X2_rank D z zo l a σx x4 x2 r4 qr4) gX2_placeOf_X2_rank rfl (by decide +kernel) ⟨Nat.le_of_ble_eq_true rfl, Nat.le_of_ble_eq_true rfl⟩ ⟨Nat.le_of_ble_eq_true rfl, Nat.le_of_ble_eq_true rfl⟩ 0 rfl rfl (fun _ h => h) rfl rfl (Nat.le_of_ble_eq_true rfl) dX2_placeOf_26 (st' := [.long r4]) rfl rfl ?_
          refine lm_aload_n C dX2_placeOf_29 rfl 0 rfl rfl ?_
          refine lm_iload_n C dX2_placeOf_30 rfl 1 rfl rfl ?_
          refine lm_iload_n C dX2_placeOf_31 rfl 2 rfl rfl ?_
          obtain ⟨r5, qr5, hF⟩ := lm_bde hF
          refine lm_callVR C (n := 2) (ci := 2) (m_X2_rank D z zo l a σx x1 x2 r5 qr5) gX2_placeOf_X2_rank rfl (by decide +kernel) ⟨Nat.le_of_ble_eq_true rfl, Nat.le_of_ble_eq_true rfl⟩ ⟨Nat.le_of_ble_eq_true rfl, Nat.le_of_ble_eq_true rfl⟩ 0 rfl rfl (fun _ h => h) rfl rfl (Nat.le_of_ble_eq_true rfl) dX2_placeOf_32 (st' := [.long r5, .long r4]) rfl rfl ?_
          refine lm_lcmp C dX2_placeOf_35 rfl rfl ?_
          refine lm_if_ge C (tgt := 42) dX2_placeOf_36 (by decide) rfl (fun c6 => ?_) (fun c6 => ?_)
          · have hF := lm_brt hF c6
            refine lm_iinc C (lv' := [(0, .ref (a 0)), (1, .int x1), (2, .int x2), (3, .int x3), (4, .int (x4 + (1 : Int32)))]) (x4 + (1 : Int32)) dX2_placeOf_42 4 rfl rfl (by decide) rfl [1, 2, 3, 4, 0] rfl rfl ?_
            refine lm_goto C (tgt := 5) dX2_placeOf_45 (by decide) ?_
            exact ih σx x1 x2 x3 (x4 + (1 : Int32)) hF
          · have hF := lm_brf hF c6
            refine lm_iinc C (lv' := [(0, .ref (a 0)), (1, .int x1), (2, .int x2), (3, .int (x3 + (1 : Int32))), (4, .int x4)]) (x3 + (1 : Int32)) dX2_placeOf_39 3 rfl rfl (by decide) rfl [1, 2, 3, 0, 4] rfl rfl ?_
            refine lm_iinc C (lv' := [(0, .ref (a 0)), (1, .int x1), (2, .int x2), (3, .int (x3 + (1 : Int32))), (4, .int (x4 + (1 : Int32)))]) (x4 + (1 : Int32)) dX2_placeOf_42 4 rfl rfl (by decide) rfl [1, 2, 3, 4, 0] rfl rfl ?_
            refine lm_goto C (tgt := 5) dX2_placeOf_45 (by decide) ?_
            exact ih σx x1 x2 (x3 + (1 : Int32)) (x4 + (1 : Int32)) hF
  show lm_St p l e ({ frames := 1, cells := 0, slots := 0, locals := 22 }) s m_ args below meth c D (fun _ => False) 5 0 0 (lm_EndR below (some (.int r)) args s) true (meW z a σ) 0 [(0, .ref (a 0)), (1, .int x1), (2, .int x2)] []
  rw [F_X2_placeOf] at hF
  refine lm_iconst C (v := (0 : Int32)) dX2_placeOf_0 (by decide) rfl ?_
  refine lm_istore_n C (lv' := [(0, .ref (a 0)), (1, .int x1), (2, .int x2), (3, .int (0 : Int32))]) dX2_placeOf_1 rfl (by decide) rfl [1, 2, 3, 0] rfl rfl ?_
  refine lm_iconst C (v := (0 : Int32)) dX2_placeOf_2 (by decide) rfl ?_
  refine lm_istore C (lv' := [(0, .ref (a 0)), (1, .int x1), (2, .int x2), (3, .int (0 : Int32)), (4, .int (0 : Int32))]) dX2_placeOf_3 (by decide) rfl [1, 2, 3, 4, 0] rfl rfl ?_
  exact loop_5 1000 σ x1 x2 (0 : Int32) (0 : Int32) hF
