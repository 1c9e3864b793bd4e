def F_X7_in  (x1 x2 x3 : Int32) : Option Int32 :=
  lm_br (x1 < x2)
   (some (0 : Int32))
   (lm_br (x3 < x1)
    (some (0 : Int32))
    (some (1 : Int32)))
set_option maxRecDepth 100000 in
set_option maxHeartbeats 4000000 in
theorem m_X7_in (D : va_G) (z zo : ClassId) (l : Launch)   (x1 x2 x3 : Int32) (r : Int32)  (hF : F_X7_in  x1 x2 x3 = some r) : lm_CR D z zo l yX7_in wsX7_in 0 0 [.int x1, .int x2, .int x3] [] (some (.int r)) := by
  refine lm_CR.of (by decide) rfl (Nat.le_of_ble_eq_true rfl) (own := RX7) rfl ?_
  intro p e s m_ args below meth c C hr hk
  show lm_St p l e ({ frames := 0, cells := 0, slots := 0, locals := 0 }) s m_ args below meth c D (fun _ => False) 3 0 0 (lm_EndR below (some (.int r)) args s) true [] 0 [(0, .int x1), (1, .int x2), (2, .int x3)] []
  rw [F_X7_in] at hF
  refine lm_iload_n C dX7_in_0 rfl 0 rfl rfl ?_
  refine lm_iload_n C dX7_in_1 rfl 1 rfl rfl ?_
  refine lm_icmp_lt C (tgt := 14) dX7_in_2 (by decide) rfl (fun c1 => ?_) (fun c1 => ?_)
  · have hF := lm_brt hF c1
    refine lm_iconst C (v := (0 : Int32)) dX7_in_14 (by decide) rfl ?_
    cases hF
    exact lm_zretR C hr hk rfl rfl dX7_in_15
  · have hF := lm_brf hF c1
    refine lm_iload_n C dX7_in_5 rfl 0 rfl rfl ?_
    refine lm_iload_n C dX7_in_6 rfl 2 rfl rfl ?_
    refine lm_icmp_gt C (tgt := 14) dX7_in_7 (by decide) rfl (fun c2 => ?_) (fun c2 => ?_)
    · have hF := lm_brt hF c2
      refine lm_iconst C (v := (0 : Int32)) dX7_in_14 (by decide) rfl ?_
      cases hF
      exact lm_zretR C hr hk rfl rfl dX7_in_15
    · have hF := lm_brf hF c2
      refine lm_iconst C (v := (1 : Int32)) dX7_in_10 (by decide) rfl ?_
      refine lm_goto C (tgt := 15) dX7_in_11 (by decide) ?_
      cases hF
      exact lm_zretR C hr hk rfl rfl dX7_in_15
def F_X7_changes_L58 : Nat → Hp → Int32 → Option (Hp)
  | 0, _, _ => none
  | n + 1, σx, x1 =>
    lm_br ((127 : Int32) ≤ x1)
     (lm_lt (lm_u σx 0 5 ((σx 0 5) + (1 : Int32))) fun σ4 =>
     some σ4)
     (lm_gi x1 127
     (lm_gi (((127 : Int32) * (σx 0 5)) + x1) 508
     (lm_lt (lm_u σx 2 (((((127 : Int32) * (σx 0 5)) + x1)).toNatClampNeg) (σx 1 x1.toNatClampNeg)) fun σ6 =>
     F_X7_changes_L58 n σ6 (x1 + (1 : Int32)))))
def F_X7_changes_L18 : Nat → Hp → Int32 → Option (Hp)
  | 0, _, _ => none
  | n + 1, σx, x1 =>
    lm_br ((381 : Int32) ≤ x1)
     (lm_lt (lm_u σx 0 5 ((σx 0 5) - (1 : Int32))) fun σ9 =>
     F_X7_changes_L58 1000 σ9 (0 : Int32))
     (lm_gi (x1 + (127 : Int32)) 508
     (lm_gi x1 508
     (lm_lt (lm_u σx 2 (x1.toNatClampNeg) (σx 2 ((x1 + (127 : Int32))).toNatClampNeg)) fun σ11 =>
     F_X7_changes_L18 n σ11 (x1 + (1 : Int32)))))
def F_X7_changes (σ : Hp)  : Option (Hp) :=
  lm_br ((σ 0 6) = 0)
   (lm_br (¬ (σ 0 5) = (4 : Int32))
    (F_X7_changes_L58 1000 σ (0 : Int32))
    (F_X7_changes_L18 1000 σ (0 : Int32)))
   (some σ)
theorem in7_X7_changes : ∀ w ∈ u_ws RX7 TX7 14, w ∈ wsX7_changes := by decide +kernel
theorem fl31_X7_changes : Cond.fieldLink RX7 31 "LoopMemoModel" "runs" "Z" ∈ wsX7_changes := by decide +kernel
theorem fl35_X7_changes : Cond.fieldLink RX7 35 "LoopMemoModel" "pasts" "I" ∈ wsX7_changes := by decide +kernel
theorem fl13_X7_changes : Cond.fieldLink RX7 13 "LoopMemoModel" "past" "[I" ∈ wsX7_changes := by decide +kernel
theorem fl7_X7_changes : Cond.fieldLink RX7 7 "LoopMemoModel" "s" "[I" ∈ wsX7_changes := by decide +kernel
set_option maxRecDepth 100000 in
set_option maxHeartbeats 4000000 in
theorem m_X7_changes (D : va_G) (z zo : ClassId) (l : Launch) (a : Nat → Nat) (σ : Hp)   (σ' : Hp) (hF : F_X7_changes σ  = some σ') : lm_C D z zo l yX7_changes wsX7_changes 0 0 [.ref (a 0)] (mdW z a σ) none (mdW z a σ') := by
  refine lm_C.of (by decide) rfl (Nat.le_of_ble_eq_true rfl) (own := RX7) rfl ?_
  intro p e s m_ args below meth c C hr hk hA
  have loop_58 : ∀ (n : Nat) (σx : Hp) (x1 : Int32), F_X7_changes_L58 n σx x1 = some σ' → lm_St p l e ({ frames := 0, cells := 0, slots := 0, locals := 0 }) s m_ args below meth c D (va_A (mdW z a σ) s.heap.size) 2 0 0 (lm_End below D none (mdW z a σ) (mdW z a σ') args s) false (mdW z a σx) 58 [(0, .ref (a 0)), (1, .int x1)] [] := by
    intro n
    induction n with
    | zero => intro σx x1 hF; cases (show (none : Option _) = some _ from hF)
    | succ n ih =>
      intro σx x1 hF
      rw [F_X7_changes_L58] at hF
      refine lm_iload_n C dX7_changes_58 rfl 1 rfl rfl ?_
      refine lm_bipush C (v := (127 : Int32)) dX7_changes_59 (by decide) rfl ?_
      refine lm_icmp_ge C (tgt := 90) dX7_changes_61 (by decide) rfl (fun c3 => ?_) (fun c3 => ?_)
      · have hF := lm_brt hF c3
        refine lm_aload_n C dX7_changes_90 rfl 0 rfl rfl ?_
        refine lm_dup C dX7_changes_91 rfl rfl ?_
        refine lm_getf C (T := TX7) (N := 14) (v := .int (σx 0 5)) in7_X7_changes 0 rfl rfl 5 (by decide) fl35_X7_changes rfl rfl dX7_changes_92 rfl ?_
        refine lm_iconst C (v := (1 : Int32)) dX7_changes_95 (by decide) rfl ?_
        refine lm_iadd C dX7_changes_96 rfl rfl ?_
        obtain ⟨σ4, eσ4, hF⟩ := lm_lte hF
        refine lm_putf C (T := TX7) (N := 14) (ty := .int) (v := .int ((σx 0 5) + (1 : Int32))) (w' := (mdW z a σ4)) in7_X7_changes tyX7 tyX7_ok nmX7 0 rfl rfl 5 (by decide) fl35_X7_changes rfl rfl rfl rfl rfl (Nat.le_of_ble_eq_true rfl) dX7_changes_97 (by rw [← eσ4]; rfl) rfl ?_
        cases hF
        exact lm_vret C hr hk rfl rfl dX7_changes_100
      · have hF := lm_brf hF c3
        refine lm_aload_n C dX7_changes_64 rfl 0 rfl rfl ?_
        refine lm_getf C (T := TX7) (N := 14) (v := .ref (a 2)) in7_X7_changes 0 rfl rfl 1 (by decide) fl13_X7_changes rfl rfl dX7_changes_65 rfl ?_
        refine lm_bipush C (v := (127 : Int32)) dX7_changes_68 (by decide) rfl ?_
        refine lm_aload_n C dX7_changes_70 rfl 0 rfl rfl ?_
        refine lm_getf C (T := TX7) (N := 14) (v := .int (σx 0 5)) in7_X7_changes 0 rfl rfl 5 (by decide) fl35_X7_changes rfl rfl dX7_changes_71 rfl ?_
        refine lm_imul C dX7_changes_74 rfl rfl ?_
        refine lm_iload_n C dX7_changes_75 rfl 1 rfl rfl ?_
        refine lm_iadd C dX7_changes_76 rfl rfl ?_
        refine lm_aload_n C dX7_changes_77 rfl 0 rfl rfl ?_
        refine lm_getf C (T := TX7) (N := 14) (v := .ref (a 1)) in7_X7_changes 0 rfl rfl 0 (by decide) fl7_X7_changes rfl rfl dX7_changes_78 rfl ?_
        refine lm_iload_n C dX7_changes_81 rfl 1 rfl rfl ?_
        obtain ⟨b5, hF⟩ := lm_gie hF
        refine lm_iald C (v := (σx 1 x1.toNatClampNeg)) 1 rfl b5 rfl dX7_changes_82 rfl ?_
        obtain ⟨b7, hF⟩ := lm_gie hF
        obtain ⟨σ6, eσ6, hF⟩ := lm_lte hF
        refine lm_iast C (w' := (mdW z a σ6)) 2 rfl b7 dX7_changes_83 (by rw [← eσ6]; rfl) rfl ?_
        refine lm_iinc C (lv' := [(0, .ref (a 0)), (1, .int (x1 + (1 : Int32)))]) (x1 + (1 : Int32)) dX7_changes_84 1 rfl rfl (by decide) rfl [1, 0] rfl rfl ?_
        refine lm_goto C (tgt := 58) dX7_changes_87 (by decide) ?_
        exact ih σ6 (x1 + (1 : Int32)) hF
  have loop_18 : ∀ (n : Nat) (σx : Hp) (x1 : Int32), F_X7_changes_L18 n σx x1 = some σ' → lm_St p l e ({ frames := 0, cells := 0, slots := 0, locals := 0 }) s m_ args below meth c D (va_A (mdW z a σ) s.heap.size) 2 0 0 (lm_End below D none (mdW z a σ) (mdW z a σ') args s) false (mdW z a σx) 18 [(0, .ref (a 0)), (1, .int x1)] [] := by
    intro n
    induction n with
    | zero => intro σx x1 hF; cases (show (none : Option _) = some _ from hF)
    | succ n ih =>
      intro σx x1 hF
      rw [F_X7_changes_L18] at hF
      refine lm_iload_n C dX7_changes_18 rfl 1 rfl rfl ?_
      refine lm_sipush C (v := (381 : Int32)) dX7_changes_19 (by decide) rfl ?_
      refine lm_icmp_ge C (tgt := 46) dX7_changes_22 (by decide) rfl (fun c8 => ?_) (fun c8 => ?_)
      · have hF := lm_brt hF c8
        refine lm_aload_n C dX7_changes_46 rfl 0 rfl rfl ?_
        refine lm_dup C dX7_changes_47 rfl rfl ?_
        refine lm_getf C (T := TX7) (N := 14) (v := .int (σx 0 5)) in7_X7_changes 0 rfl rfl 5 (by decide) fl35_X7_changes rfl rfl dX7_changes_48 rfl ?_
        refine lm_iconst C (v := (1 : Int32)) dX7_changes_51 (by decide) rfl ?_
        refine lm_isub C dX7_changes_52 rfl rfl ?_
        obtain ⟨σ9, eσ9, hF⟩ := lm_lte hF
        refine lm_putf C (T := TX7) (N := 14) (ty := .int) (v := .int ((σx 0 5) - (1 : Int32))) (w' := (mdW z a σ9)) in7_X7_changes tyX7 tyX7_ok nmX7 0 rfl rfl 5 (by decide) fl35_X7_changes rfl rfl rfl rfl rfl (Nat.le_of_ble_eq_true rfl) dX7_changes_53 (by rw [← eσ9]; rfl) rfl ?_
        refine lm_iconst C (v := (0 : Int32)) dX7_changes_56 (by decide) rfl ?_
        refine lm_istore_n C (lv' := [(0, .ref (a 0)), (1, .int (0 : Int32))]) dX7_changes_57 rfl (by decide) rfl [1, 0] rfl rfl ?_
        exact loop_58 1000 σ9 (0 : Int32) hF
      · have hF := lm_brf hF c8
        refine lm_aload_n C dX7_changes_25 rfl 0 rfl rfl ?_
        refine lm_getf C (T := TX7) (N := 14) (v := .ref (a 2)) in7_X7_changes 0 rfl rfl 1 (by decide) fl13_X7_changes rfl rfl dX7_changes_26 rfl ?_
        refine lm_iload_n C dX7_changes_29 rfl 1 rfl rfl ?_
        refine lm_aload_n C dX7_changes_30 rfl 0 rfl rfl ?_
        refine lm_getf C (T := TX7) (N := 14) (v := .ref (a 2)) in7_X7_changes 0 rfl rfl 1 (by decide) fl13_X7_changes rfl rfl dX7_changes_31 rfl ?_
        refine lm_iload_n C dX7_changes_34 rfl 1 rfl rfl ?_
        refine lm_bipush C (v := (127 : Int32)) dX7_changes_35 (by decide) rfl ?_
        refine lm_iadd C dX7_changes_37 rfl rfl ?_
        obtain ⟨b10, hF⟩ := lm_gie hF
        refine lm_iald C (v := (σx 2 ((x1 + (127 : Int32))).toNatClampNeg)) 2 rfl b10 rfl dX7_changes_38 rfl ?_
        obtain ⟨b12, hF⟩ := lm_gie hF
        obtain ⟨σ11, eσ11, hF⟩ := lm_lte hF
        refine lm_iast C (w' := (mdW z a σ11)) 2 rfl b12 dX7_changes_39 (by rw [← eσ11]; rfl) rfl ?_
        refine lm_iinc C (lv' := [(0, .ref (a 0)), (1, .int (x1 + (1 : Int32)))]) (x1 + (1 : Int32)) dX7_changes_40 1 rfl rfl (by decide) rfl [1, 0] rfl rfl ?_
        refine lm_goto C (tgt := 18) dX7_changes_43 (by decide) ?_
        exact ih σ11 (x1 + (1 : Int32)) hF
  show lm_St p l e ({ frames := 0, cells := 0, slots := 0, locals := 0 }) s m_ args below meth c D (va_A (mdW z a σ) s.heap.size) 2 0 0 (lm_End below D none (mdW z a σ) (mdW z a σ') args s) false (mdW z a σ) 0 [(0, .ref (a 0))] []
  rw [F_X7_changes] at hF
  refine lm_aload_n C dX7_changes_0 rfl 0 rfl rfl ?_
  refine lm_getf C (T := TX7) (N := 14) (v := .int (σ 0 6)) in7_X7_changes 0 rfl rfl 6 (by decide) fl31_X7_changes rfl rfl dX7_changes_1 rfl ?_
  refine lm_if_eq C (tgt := 8) dX7_changes_4 (by decide) rfl (fun c1 => ?_) (fun c1 => ?_)
  · have hF := lm_brt hF c1
    refine lm_aload_n C dX7_changes_8 rfl 0 rfl rfl ?_
    refine lm_getf C (T := TX7) (N := 14) (v := .int (σ 0 5)) in7_X7_changes 0 rfl rfl 5 (by decide) fl35_X7_changes rfl rfl dX7_changes_9 rfl ?_
    refine lm_iconst C (v := (4 : Int32)) dX7_changes_12 (by decide) rfl ?_
    refine lm_icmp_ne C (tgt := 56) dX7_changes_13 (by decide) rfl (fun c2 => ?_) (fun c2 => ?_)
    · have hF := lm_brt hF c2
      refine lm_iconst C (v := (0 : Int32)) dX7_changes_56 (by decide) rfl ?_
      refine lm_istore_n C (lv' := [(0, .ref (a 0)), (1, .int (0 : Int32))]) dX7_changes_57 rfl (by decide) rfl [1, 0] rfl rfl ?_
      exact loop_58 1000 σ (0 : Int32) hF
    · have hF := lm_brf hF c2
      refine lm_iconst C (v := (0 : Int32)) dX7_changes_16 (by decide) rfl ?_
      refine lm_istore_n C (lv' := [(0, .ref (a 0)), (1, .int (0 : Int32))]) dX7_changes_17 rfl (by decide) rfl [1, 0] rfl rfl ?_
      exact loop_18 1000 σ (0 : Int32) hF
  · have hF := lm_brf hF c1
    cases hF
    exact lm_vret C hr hk rfl rfl dX7_changes_7
def F_X7_putsAside_L2 : Nat → Hp → Int32 → Option (Hp)
  | 0, _, _ => none
  | n + 1, σx, x1 =>
    lm_br ((127 : Int32) ≤ x1)
     (some σx)
     (lm_gi x1 127
     (lm_gi x1 127
     (lm_lt (lm_u σx 4 (x1.toNatClampNeg) (σx 1 x1.toNatClampNeg)) fun σ3 =>
     F_X7_putsAside_L2 n σ3 (x1 + (1 : Int32)))))
def F_X7_putsAside (σ : Hp)  : Option (Hp) :=
  F_X7_putsAside_L2 1000 σ (0 : Int32)
theorem in7_X7_putsAside : ∀ w ∈ u_ws RX7 TX7 14, w ∈ wsX7_putsAside := by decide +kernel
theorem fl19_X7_putsAside : Cond.fieldLink RX7 19 "LoopMemoModel" "spare" "[I" ∈ wsX7_putsAside := by decide +kernel
theorem fl7_X7_putsAside : Cond.fieldLink RX7 7 "LoopMemoModel" "s" "[I" ∈ wsX7_putsAside := by decide +kernel
set_option maxRecDepth 100000 in
set_option maxHeartbeats 4000000 in
theorem m_X7_putsAside (D : va_G) (z zo : ClassId) (l : Launch) (a : Nat → Nat) (σ : Hp)   (σ' : Hp) (hF : F_X7_putsAside σ  = some σ') : lm_C D z zo l yX7_putsAside wsX7_putsAside 0 0 [.ref (a 0)] (mdW z a σ) none (mdW z a σ') := by
  refine lm_C.of (by decide) rfl (Nat.le_of_ble_eq_true rfl) (own := RX7) rfl ?_
  intro p e s m_ args below meth c C hr hk hA
  have loop_2 : ∀ (n : Nat) (σx : Hp) (x1 : Int32), F_X7_putsAside_L2 n σx x1 = some σ' → lm_St p l e ({ frames := 0, cells := 0, slots := 0, locals := 0 }) s m_ args below meth c D (va_A (mdW z a σ) s.heap.size) 2 0 0 (lm_End below D none (mdW z a σ) (mdW z a σ') args s) false (mdW z a σx) 2 [(0, .ref (a 0)), (1, .int x1)] [] := by
    intro n
    induction n with
    | zero => intro σx x1 hF; cases (show (none : Option _) = some _ from hF)
    | succ n ih =>
      intro σx x1 hF
      rw [F_X7_putsAside_L2] at hF
      refine lm_iload_n C dX7_putsAside_2 rfl 1 rfl rfl ?_
      refine lm_bipush C (v := (127 : Int32)) dX7_putsAside_3 (by decide) rfl ?_
      refine lm_icmp_ge C (tgt := 26) dX7_putsAside_5 (by decide) rfl (fun c1 => ?_) (fun c1 => ?_)
      · have hF := lm_brt hF c1
        cases hF
        exact lm_vret C hr hk rfl rfl dX7_putsAside_26
      · have hF := lm_brf hF c1
        refine lm_aload_n C dX7_putsAside_8 rfl 0 rfl rfl ?_
        refine lm_getf C (T := TX7) (N := 14) (v := .ref (a 4)) in7_X7_putsAside 0 rfl rfl 3 (by decide) fl19_X7_putsAside rfl rfl dX7_putsAside_9 rfl ?_
        refine lm_iload_n C dX7_putsAside_12 rfl 1 rfl rfl ?_
        refine lm_aload_n C dX7_putsAside_13 rfl 0 rfl rfl ?_
        refine lm_getf C (T := TX7) (N := 14) (v := .ref (a 1)) in7_X7_putsAside 0 rfl rfl 0 (by decide) fl7_X7_putsAside rfl rfl dX7_putsAside_14 rfl ?_
        refine lm_iload_n C dX7_putsAside_17 rfl 1 rfl rfl ?_
        obtain ⟨b2, hF⟩ := lm_gie hF
        refine lm_iald C (v := (σx 1 x1.toNatClampNeg)) 1 rfl b2 rfl dX7_putsAside_18 rfl ?_
        obtain ⟨b4, hF⟩ := lm_gie hF
        obtain ⟨σ3, eσ3, hF⟩ := lm_lte hF
        refine lm_iast C (w' := (mdW z a σ3)) 4 rfl b4 dX7_putsAside_19 (by rw [← eσ3]; rfl) rfl ?_
        refine lm_iinc C (lv' := [(0, .ref (a 0)), (1, .int (x1 + (1 : Int32)))]) (x1 + (1 : Int32)) dX7_putsAside_20 1 rfl rfl (by decide) rfl [1, 0] rfl rfl ?_
        refine lm_goto C (tgt := 2) dX7_putsAside_23 (by decide) ?_
        exact ih σ3 (x1 + (1 : Int32)) hF
  show lm_St p l e ({ frames := 0, cells := 0, slots := 0, locals := 0 }) s m_ args below meth c D (va_A (mdW z a σ) s.heap.size) 2 0 0 (lm_End below D none (mdW z a σ) (mdW z a σ') args s) false (mdW z a σ) 0 [(0, .ref (a 0))] []
  rw [F_X7_putsAside] at hF
  refine lm_iconst C (v := (0 : Int32)) dX7_putsAside_0 (by decide) rfl ?_
  refine lm_istore_n C (lv' := [(0, .ref (a 0)), (1, .int (0 : Int32))]) dX7_putsAside_1 rfl (by decide) rfl [1, 0] rfl rfl ?_
  exact loop_2 1000 σ (0 : Int32) hF
def F_X7_putsBack_L2 : Nat → Hp → Int32 → Option (Hp)
  | 0, _, _ => none
  | n + 1, σx, x1 =>
    lm_br ((127 : Int32) ≤ x1)
     (some σx)
     (lm_gi x1 127
     (lm_gi x1 127
     (lm_lt (lm_u σx 1 (x1.toNatClampNeg) (σx 4 x1.toNatClampNeg)) fun σ3 =>
     F_X7_putsBack_L2 n σ3 (x1 + (1 : Int32)))))
def F_X7_putsBack (σ : Hp)  : Option (Hp) :=
  F_X7_putsBack_L2 1000 σ (0 : Int32)
theorem in7_X7_putsBack : ∀ w ∈ u_ws RX7 TX7 14, w ∈ wsX7_putsBack := by decide +kernel
theorem fl7_X7_putsBack : Cond.fieldLink RX7 7 "LoopMemoModel" "s" "[I" ∈ wsX7_putsBack := by decide +kernel
theorem fl19_X7_putsBack : Cond.fieldLink RX7 19 "LoopMemoModel" "spare" "[I" ∈ wsX7_putsBack := by decide +kernel
set_option maxRecDepth 100000 in
set_option maxHeartbeats 4000000 in
theorem m_X7_putsBack (D : va_G) (z zo : ClassId) (l : Launch) (a : Nat → Nat) (σ : Hp)   (σ' : Hp) (hF : F_X7_putsBack σ  = some σ') : lm_C D z zo l yX7_putsBack wsX7_putsBack 0 0 [.ref (a 0)] (mdW z a σ) none (mdW z a σ') := by
  refine lm_C.of (by decide) rfl (Nat.le_of_ble_eq_true rfl) (own := RX7) rfl ?_
  intro p e s m_ args below meth c C hr hk hA
  have loop_2 : ∀ (n : Nat) (σx : Hp) (x1 : Int32), F_X7_putsBack_L2 n σx x1 = some σ' → lm_St p l e ({ frames := 0, cells := 0, slots := 0, locals := 0 }) s m_ args below meth c D (va_A (mdW z a σ) s.heap.size) 2 0 0 (lm_End below D none (mdW z a σ) (mdW z a σ') args s) false (mdW z a σx) 2 [(0, .ref (a 0)), (1, .int x1)] [] := by
    intro n
    induction n with
    | zero => intro σx x1 hF; cases (show (none : Option _) = some _ from hF)
    | succ n ih =>
      intro σx x1 hF
      rw [F_X7_putsBack_L2] at hF
      refine lm_iload_n C dX7_putsBack_2 rfl 1 rfl rfl ?_
      refine lm_bipush C (v := (127 : Int32)) dX7_putsBack_3 (by decide) rfl ?_
      refine lm_icmp_ge C (tgt := 26) dX7_putsBack_5 (by decide) rfl (fun c1 => ?_) (fun c1 => ?_)
      · have hF := lm_brt hF c1
        cases hF
        exact lm_vret C hr hk rfl rfl dX7_putsBack_26
      · have hF := lm_brf hF c1
        refine lm_aload_n C dX7_putsBack_8 rfl 0 rfl rfl ?_
        refine lm_getf C (T := TX7) (N := 14) (v := .ref (a 1)) in7_X7_putsBack 0 rfl rfl 0 (by decide) fl7_X7_putsBack rfl rfl dX7_putsBack_9 rfl ?_
        refine lm_iload_n C dX7_putsBack_12 rfl 1 rfl rfl ?_
        refine lm_aload_n C dX7_putsBack_13 rfl 0 rfl rfl ?_
        refine lm_getf C (T := TX7) (N := 14) (v := .ref (a 4)) in7_X7_putsBack 0 rfl rfl 3 (by decide) fl19_X7_putsBack rfl rfl dX7_putsBack_14 rfl ?_
        refine lm_iload_n C dX7_putsBack_17 rfl 1 rfl rfl ?_
        obtain ⟨b2, hF⟩ := lm_gie hF
        refine lm_iald C (v := (σx 4 x1.toNatClampNeg)) 4 rfl b2 rfl dX7_putsBack_18 rfl ?_
        obtain ⟨b4, hF⟩ := lm_gie hF
        obtain ⟨σ3, eσ3, hF⟩ := lm_lte hF
        refine lm_iast C (w' := (mdW z a σ3)) 1 rfl b4 dX7_putsBack_19 (by rw [← eσ3]; rfl) rfl ?_
        refine lm_iinc C (lv' := [(0, .ref (a 0)), (1, .int (x1 + (1 : Int32)))]) (x1 + (1 : Int32)) dX7_putsBack_20 1 rfl rfl (by decide) rfl [1, 0] rfl rfl ?_
        refine lm_goto C (tgt := 2) dX7_putsBack_23 (by decide) ?_
        exact ih σ3 (x1 + (1 : Int32)) hF
  show lm_St p l e ({ frames := 0, cells := 0, slots := 0, locals := 0 }) s m_ args below meth c D (va_A (mdW z a σ) s.heap.size) 2 0 0 (lm_End below D none (mdW z a σ) (mdW z a σ') args s) false (mdW z a σ) 0 [(0, .ref (a 0))] []
  rw [F_X7_putsBack] at hF
  refine lm_iconst C (v := (0 : Int32)) dX7_putsBack_0 (by decide) rfl ?_
  refine lm_istore_n C (lv' := [(0, .ref (a 0)), (1, .int (0 : Int32))]) dX7_putsBack_1 rfl (by decide) rfl [1, 0] rfl rfl ?_
  exact loop_2 1000 σ (0 : Int32) hF
def F_X7_isRowOf  (x1 x2 : Int32) : Option Int32 :=
  lm_bd (F_X7_in x1 (0 : Int32) (9 : Int32)) fun r1 =>
  lm_br (r1 = 0)
   (some (0 : Int32))
   (lm_bd (F_X7_in x2 (0 : Int32) (99 : Int32)) fun r3 =>
   lm_br (r3 = 0)
    (some (0 : Int32))
    (some (1 : Int32)))
set_option maxRecDepth 100000 in
set_option maxHeartbeats 4000000 in
theorem m_X7_isRowOf (D : va_G) (z zo : ClassId) (l : Launch)   (x1 x2 : Int32) (r : Int32)  (hF : F_X7_isRowOf  x1 x2 = some r) : lm_CR D z zo l yX7_isRowOf wsX7_isRowOf 1 22 [.int x1, .int x2] [] (some (.int r)) := by
  refine lm_CR.of (by decide) rfl (Nat.le_of_ble_eq_true rfl) (own := RX7) rfl ?_
  intro p e s m_ args below meth c C hr hk
  show lm_St p l e ({ frames := 1, cells := 0, slots := 0, locals := 22 }) s m_ args below meth c D (fun _ => False) 2 0 0 (lm_EndR below (some (.int r)) args s) true [] 0 [(0, .int x1), (1, .int x2)] []
  rw [F_X7_isRowOf] at hF
  refine lm_iload_n C dX7_isRowOf_0 rfl 0 rfl rfl ?_
  refine lm_iconst C (v := (0 : Int32)) dX7_isRowOf_1 (by decide) rfl ?_
  refine lm_bipush C (v := (9 : Int32)) dX7_isRowOf_2 (by decide) rfl ?_
  obtain ⟨r1, qr1, hF⟩ := lm_bde hF
  refine lm_callSR C (n := 3) (m_X7_in D z zo l   x1 (0 : Int32) (9 : Int32) r1 qr1) gX7_isRowOf_X7_in rfl (by decide +kernel) ⟨Nat.le_of_ble_eq_true rfl, Nat.le_of_ble_eq_true rfl⟩ ⟨Nat.le_of_ble_eq_true rfl, Nat.le_of_ble_eq_true rfl⟩ (fun _ h => absurd h List.not_mem_nil) rfl rfl (Nat.le_of_ble_eq_true rfl) dX7_isRowOf_4 (st' := [.int r1]) rfl rfl ?_
  refine lm_if_eq C (tgt := 24) dX7_isRowOf_7 (by decide) rfl (fun c2 => ?_) (fun c2 => ?_)
  · have hF := lm_brt hF c2
    refine lm_iconst C (v := (0 : Int32)) dX7_isRowOf_24 (by decide) rfl ?_
    cases hF
    exact lm_zretR C hr hk rfl rfl dX7_isRowOf_25
  · have hF := lm_brf hF c2
    refine lm_iload_n C dX7_isRowOf_10 rfl 1 rfl rfl ?_
    refine lm_iconst C (v := (0 : Int32)) dX7_isRowOf_11 (by decide) rfl ?_
    refine lm_bipush C (v := (99 : Int32)) dX7_isRowOf_12 (by decide) rfl ?_
    obtain ⟨r3, qr3, hF⟩ := lm_bde hF
    refine lm_callSR C (n := 3) (m_X7_in D z zo l   x2 (0 : Int32) (99 : Int32) r3 qr3) gX7_isRowOf_X7_in rfl (by decide +kernel) ⟨Nat.le_of_ble_eq_true rfl, Nat.le_of_ble_eq_true rfl⟩ ⟨Nat.le_of_ble_eq_true rfl, Nat.le_of_ble_eq_true rfl⟩ (fun _ h => absurd h List.not_mem_nil) rfl rfl (Nat.le_of_ble_eq_true rfl) dX7_isRowOf_14 (st' := [.int r3]) rfl rfl ?_
    refine lm_if_eq C (tgt := 24) dX7_isRowOf_17 (by decide) rfl (fun c4 => ?_) (fun c4 => ?_)
    · have hF := lm_brt hF c4
      refine lm_iconst C (v := (0 : Int32)) dX7_isRowOf_24 (by decide) rfl ?_
      cases hF
      exact lm_zretR C hr hk rfl rfl dX7_isRowOf_25
    · have hF := lm_brf hF c4
      refine lm_iconst C (v := (1 : Int32)) dX7_isRowOf_20 (by decide) rfl ?_
      refine lm_goto C (tgt := 25) dX7_isRowOf_21 (by decide) ?_
      cases hF
      exact lm_zretR C hr hk rfl rfl dX7_isRowOf_25
def F_X7_isInner (σ : Hp) (x1 : Int32) : Option Int32 :=
  lm_bd (F_X7_in x1 (0 : Int32) ((σ 1 5) - (1 : Int32))) fun r1 =>
  lm_gd (r1 = 0 ∨ r1 = 1) (some r1)
theorem in7_X7_isInner : ∀ w ∈ u_ws RX7 TX7 14, w ∈ wsX7_isInner := by decide +kernel
theorem fl7_X7_isInner : Cond.fieldLink RX7 7 "LoopMemoModel" "s" "[I" ∈ wsX7_isInner := by decide +kernel
set_option maxRecDepth 100000 in
set_option maxHeartbeats 4000000 in
theorem m_X7_isInner (D : va_G) (z zo : ClassId) (l : Launch) (a : Nat → Nat) (σ : Hp) (x1 : Int32) (r : Int32)  (hF : F_X7_isInner σ x1 = some r) : lm_CR D z zo l yX7_isInner wsX7_isInner 1 22 [.ref (a 0), .int x1] (mdW z a σ) (some (.int r)) := by
  refine lm_CR.of (by decide) rfl (Nat.le_of_ble_eq_true rfl) (own := RX7) rfl ?_
  intro p e s m_ args below meth c C hr hk
  show lm_St p l e ({ frames := 1, cells := 0, slots := 0, locals := 22 }) s m_ args below meth c D (fun _ => False) 2 0 0 (lm_EndR below (some (.int r)) args s) true (mdW z a σ) 0 [(0, .ref (a 0)), (1, .int x1)] []
  rw [F_X7_isInner] at hF
  refine lm_iload_n C dX7_isInner_0 rfl 1 rfl rfl ?_
  refine lm_iconst C (v := (0 : Int32)) dX7_isInner_1 (by decide) rfl ?_
  refine lm_aload_n C dX7_isInner_2 rfl 0 rfl rfl ?_
  refine lm_getf C (T := TX7) (N := 14) (v := .ref (a 1)) in7_X7_isInner 0 rfl rfl 0 (by decide) fl7_X7_isInner rfl rfl dX7_isInner_3 rfl ?_
  refine lm_iconst C (v := (5 : Int32)) dX7_isInner_6 (by decide) rfl ?_
  refine lm_iald C (v := (σ 1 5)) 1 rfl (by unfold vp_in; decide) rfl dX7_isInner_7 rfl ?_
  refine lm_iconst C (v := (1 : Int32)) dX7_isInner_8 (by decide) rfl ?_
  refine lm_isub C dX7_isInner_9 rfl rfl ?_
  obtain ⟨r1, qr1, hF⟩ := lm_bde hF
  refine lm_callSR C (n := 3) (m_X7_in D z zo l   x1 (0 : Int32) ((σ 1 5) - (1 : Int32)) r1 qr1) gX7_isInner_X7_in rfl (by decide +kernel) ⟨Nat.le_of_ble_eq_true rfl, Nat.le_of_ble_eq_true rfl⟩ ⟨Nat.le_of_ble_eq_true rfl, Nat.le_of_ble_eq_true rfl⟩ (fun _ h => absurd h List.not_mem_nil) rfl rfl (Nat.le_of_ble_eq_true rfl) dX7_isInner_10 (st' := [.int r1]) rfl rfl ?_
  obtain ⟨c2, hF⟩ := lm_gde hF
  cases hF
  exact lm_zretR C hr hk (lm_boolok c2) rfl dX7_isInner_13
def F_X7_isOuter (σ : Hp) (x1 : Int32) : Option Int32 :=
  lm_bd (F_X7_in x1 (0 : Int32) ((σ 1 6) - (1 : Int32))) fun r1 =>
  lm_gd (r1 = 0 ∨ r1 = 1) (some r1)
theorem in7_X7_isOuter : ∀ w ∈ u_ws RX7 TX7 14, w ∈ wsX7_isOuter := by decide +kernel
theorem fl7_X7_isOuter : Cond.fieldLink RX7 7 "LoopMemoModel" "s" "[I" ∈ wsX7_isOuter := by decide +kernel
set_option maxRecDepth 100000 in
set_option maxHeartbeats 4000000 in
theorem m_X7_isOuter (D : va_G) (z zo : ClassId) (l : Launch) (a : Nat → Nat) (σ : Hp) (x1 : Int32) (r : Int32)  (hF : F_X7_isOuter σ x1 = some r) : lm_CR D z zo l yX7_isOuter wsX7_isOuter 1 22 [.ref (a 0), .int x1] (mdW z a σ) (some (.int r)) := by
  refine lm_CR.of (by decide) rfl (Nat.le_of_ble_eq_true rfl) (own := RX7) rfl ?_
  intro p e s m_ args below meth c C hr hk
  show lm_St p l e ({ frames := 1, cells := 0, slots := 0, locals := 22 }) s m_ args below meth c D (fun _ => False) 2 0 0 (lm_EndR below (some (.int r)) args s) true (mdW z a σ) 0 [(0, .ref (a 0)), (1, .int x1)] []
  rw [F_X7_isOuter] at hF
  refine lm_iload_n C dX7_isOuter_0 rfl 1 rfl rfl ?_
  refine lm_iconst C (v := (0 : Int32)) dX7_isOuter_1 (by decide) rfl ?_
  refine lm_aload_n C dX7_isOuter_2 rfl 0 rfl rfl ?_
  refine lm_getf C (T := TX7) (N := 14) (v := .ref (a 1)) in7_X7_isOuter 0 rfl rfl 0 (by decide) fl7_X7_isOuter rfl rfl dX7_isOuter_3 rfl ?_
  refine lm_bipush C (v := (6 : Int32)) dX7_isOuter_6 (by decide) rfl ?_
  refine lm_iald C (v := (σ 1 6)) 1 rfl (by unfold vp_in; decide) rfl dX7_isOuter_8 rfl ?_
  refine lm_iconst C (v := (1 : Int32)) dX7_isOuter_9 (by decide) rfl ?_
  refine lm_isub C dX7_isOuter_10 rfl rfl ?_
  obtain ⟨r1, qr1, hF⟩ := lm_bde hF
  refine lm_callSR C (n := 3) (m_X7_in D z zo l   x1 (0 : Int32) ((σ 1 6) - (1 : Int32)) r1 qr1) gX7_isOuter_X7_in rfl (by decide +kernel) ⟨Nat.le_of_ble_eq_true rfl, Nat.le_of_ble_eq_true rfl⟩ ⟨Nat.le_of_ble_eq_true rfl, Nat.le_of_ble_eq_true rfl⟩ (fun _ h => absurd h List.not_mem_nil) rfl rfl (Nat.le_of_ble_eq_true rfl) dX7_isOuter_11 (st' := [.int r1]) rfl rfl ?_
  obtain ⟨c2, hF⟩ := lm_gde hF
  cases hF
  exact lm_zretR C hr hk (lm_boolok c2) rfl dX7_isOuter_14
def F_X7_innerKey (σ : Hp) (x1 : Int32) : Option Int32 :=
  lm_gi ((17 : Int32) + ((2 : Int32) * x1)) 127
  (some (σ 1 (((17 : Int32) + ((2 : Int32) * x1))).toNatClampNeg))
theorem in7_X7_innerKey : ∀ w ∈ u_ws RX7 TX7 14, w ∈ wsX7_innerKey := by decide +kernel
theorem fl7_X7_innerKey : Cond.fieldLink RX7 7 "LoopMemoModel" "s" "[I" ∈ wsX7_innerKey := by decide +kernel
set_option maxRecDepth 100000 in
set_option maxHeartbeats 4000000 in
theorem m_X7_innerKey (D : va_G) (z zo : ClassId) (l : Launch) (a : Nat → Nat) (σ : Hp) (x1 : Int32) (r : Int32)  (hF : F_X7_innerKey σ x1 = some r) : lm_CR D z zo l yX7_innerKey wsX7_innerKey 0 0 [.ref (a 0), .int x1] (mdW z a σ) (some (.int r)) := by
  refine lm_CR.of (by decide) rfl (Nat.le_of_ble_eq_true rfl) (own := RX7) rfl ?_
  intro p e s m_ args below meth c C hr hk
  show lm_St p l e ({ frames := 0, cells := 0, slots := 0, locals := 0 }) s m_ args below meth c D (fun _ => False) 2 0 0 (lm_EndR below (some (.int r)) args s) true (mdW z a σ) 0 [(0, .ref (a 0)), (1, .int x1)] []
  rw [F_X7_innerKey] at hF
  refine lm_aload_n C dX7_innerKey_0 rfl 0 rfl rfl ?_
  refine lm_getf C (T := TX7) (N := 14) (v := .ref (a 1)) in7_X7_innerKey 0 rfl rfl 0 (by decide) fl7_X7_innerKey rfl rfl dX7_innerKey_1 rfl ?_
  refine lm_bipush C (v := (17 : Int32)) dX7_innerKey_4 (by decide) rfl ?_
  refine lm_iconst C (v := (2 : Int32)) dX7_innerKey_6 (by decide) rfl ?_
  refine lm_iload_n C dX7_innerKey_7 rfl 1 rfl rfl ?_
  refine lm_imul C dX7_innerKey_8 rfl rfl ?_
  refine lm_iadd C dX7_innerKey_9 rfl rfl ?_
  obtain ⟨b1, hF⟩ := lm_gie hF
  refine lm_iald C (v := (σ 1 (((17 : Int32) + ((2 : Int32) * x1))).toNatClampNeg)) 1 rfl b1 rfl dX7_innerKey_10 rfl ?_
  cases hF
  exact lm_iretR C hr hk rfl dX7_innerKey_11
def F_X7_innerValue (σ : Hp) (x1 : Int32) : Option Int32 :=
  lm_gi (((17 : Int32) + ((2 : Int32) * x1)) + (1 : Int32)) 127
  (some (σ 1 ((((17 : Int32) + ((2 : Int32) * x1)) + (1 : Int32))).toNatClampNeg))
theorem in7_X7_innerValue : ∀ w ∈ u_ws RX7 TX7 14, w ∈ wsX7_innerValue := by decide +kernel
theorem fl7_X7_innerValue : Cond.fieldLink RX7 7 "LoopMemoModel" "s" "[I" ∈ wsX7_innerValue := by decide +kernel
set_option maxRecDepth 100000 in
set_option maxHeartbeats 4000000 in
theorem m_X7_innerValue (D : va_G) (z zo : ClassId) (l : Launch) (a : Nat → Nat) (σ : Hp) (x1 : Int32) (r : Int32)  (hF : F_X7_innerValue σ x1 = some r) : lm_CR D z zo l yX7_innerValue wsX7_innerValue 0 0 [.ref (a 0), .int x1] (mdW z a σ) (some (.int r)) := by
  refine lm_CR.of (by decide) rfl (Nat.le_of_ble_eq_true rfl) (own := RX7) rfl ?_
  intro p e s m_ args below meth c C hr hk
  show lm_St p l e ({ frames := 0, cells := 0, slots := 0, locals := 0 }) s m_ args below meth c D (fun _ => False) 2 0 0 (lm_EndR below (some (.int r)) args s) true (mdW z a σ) 0 [(0, .ref (a 0)), (1, .int x1)] []
  rw [F_X7_innerValue] at hF
  refine lm_aload_n C dX7_innerValue_0 rfl 0 rfl rfl ?_
  refine lm_getf C (T := TX7) (N := 14) (v := .ref (a 1)) in7_X7_innerValue 0 rfl rfl 0 (by decide) fl7_X7_innerValue rfl rfl dX7_innerValue_1 rfl ?_
  refine lm_bipush C (v := (17 : Int32)) dX7_innerValue_4 (by decide) rfl ?_
  refine lm_iconst C (v := (2 : Int32)) dX7_innerValue_6 (by decide) rfl ?_
  refine lm_iload_n C dX7_innerValue_7 rfl 1 rfl rfl ?_
  refine lm_imul C dX7_innerValue_8 rfl rfl ?_
  refine lm_iadd C dX7_innerValue_9 rfl rfl ?_
  refine lm_iconst C (v := (1 : Int32)) dX7_innerValue_10 (by decide) rfl ?_
  refine lm_iadd C dX7_innerValue_11 rfl rfl ?_
  obtain ⟨b1, hF⟩ := lm_gie hF
  refine lm_iald C (v := (σ 1 ((((17 : Int32) + ((2 : Int32) * x1)) + (1 : Int32))).toNatClampNeg)) 1 rfl b1 rfl dX7_innerValue_12 rfl ?_
  cases hF
  exact lm_iretR C hr hk rfl dX7_innerValue_13
def F_X7_isFound (σ : Hp) (x1 x2 : Int32) : Option Int32 :=
  lm_bd (F_X7_innerKey σ x1) fun r1 =>
  lm_br (¬ r1 = x2)
   (some (0 : Int32))
   (lm_bd (F_X7_innerValue σ x1) fun r3 =>
   lm_bd (F_X7_in r3 (σ 1 3) (σ 1 4)) fun r4 =>
   lm_br (r4 = 0)
    (some (0 : Int32))
    (some (1 : Int32)))
theorem in7_X7_isFound : ∀ w ∈ u_ws RX7 TX7 14, w ∈ wsX7_isFound := by decide +kernel
theorem fl7_X7_isFound : Cond.fieldLink RX7 7 "LoopMemoModel" "s" "[I" ∈ wsX7_isFound := by decide +kernel
set_option maxRecDepth 100000 in
set_option maxHeartbeats 4000000 in
theorem m_X7_isFound (D : va_G) (z zo : ClassId) (l : Launch) (a : Nat → Nat) (σ : Hp) (x1 x2 : Int32) (r : Int32)  (hF : F_X7_isFound σ x1 x2 = some r) : lm_CR D z zo l yX7_isFound wsX7_isFound 1 22 [.ref (a 0), .int x1, .int x2] (mdW z a σ) (some (.int r)) := by
  refine lm_CR.of (by decide) rfl (Nat.le_of_ble_eq_true rfl) (own := RX7) rfl ?_
  intro p e s m_ args below meth c C hr hk
  show lm_St p l e ({ frames := 1, cells := 0, slots := 0, locals := 22 }) s m_ args below meth c D (fun _ => False) 3 0 0 (lm_EndR below (some (.int r)) args s) true (mdW z a σ) 0 [(0, .ref (a 0)), (1, .int x1), (2, .int x2)] []
  rw [F_X7_isFound] at hF
  refine lm_aload_n C dX7_isFound_0 rfl 0 rfl rfl ?_
  refine lm_iload_n C dX7_isFound_1 rfl 1 rfl rfl ?_
  obtain ⟨r1, qr1, hF⟩ := lm_bde hF
  refine lm_callVR C (n := 1) (ci := 7) (m_X7_innerKey D z zo l a σ x1 r1 qr1) gX7_isFound_X7_innerKey rfl (by decide +kernel) ⟨Nat.le_of_ble_eq_true rfl, Nat.le_of_ble_eq_true rfl⟩ ⟨Nat.le_of_ble_eq_true rfl, Nat.le_of_ble_eq_true rfl⟩ 0 rfl rfl (fun _ h => h) rfl rfl (Nat.le_of_ble_eq_true rfl) dX7_isFound_2 (st' := [.int r1]) rfl rfl ?_
  refine lm_iload_n C dX7_isFound_5 rfl 2 rfl rfl ?_
  refine lm_icmp_ne C (tgt := 36) dX7_isFound_6 (by decide) rfl (fun c2 => ?_) (fun c2 => ?_)
  · have hF := lm_brt hF c2
    refine lm_iconst C (v := (0 : Int32)) dX7_isFound_36 (by decide) rfl ?_
    cases hF
    exact lm_zretR C hr hk rfl rfl dX7_isFound_37
  · have hF := lm_brf hF c2
    refine lm_aload_n C dX7_isFound_9 rfl 0 rfl rfl ?_
    refine lm_iload_n C dX7_isFound_10 rfl 1 rfl rfl ?_
    obtain ⟨r3, qr3, hF⟩ := lm_bde hF
    refine lm_callVR C (n := 1) (ci := 7) (m_X7_innerValue D z zo l a σ x1 r3 qr3) gX7_isFound_X7_innerValue rfl (by decide +kernel) ⟨Nat.le_of_ble_eq_true rfl, Nat.le_of_ble_eq_true rfl⟩ ⟨Nat.le_of_ble_eq_true rfl, Nat.le_of_ble_eq_true rfl⟩ 0 rfl rfl (fun _ h => h) rfl rfl (Nat.le_of_ble_eq_true rfl) dX7_isFound_11 (st' := [.int r3]) rfl rfl ?_
    refine lm_aload_n C dX7_isFound_14 rfl 0 rfl rfl ?_
    refine lm_getf C (T := TX7) (N := 14) (v := .ref (a 1)) in7_X7_isFound 0 rfl rfl 0 (by decide) fl7_X7_isFound rfl rfl dX7_isFound_15 rfl ?_
    refine lm_iconst C (v := (3 : Int32)) dX7_isFound_18 (by decide) rfl ?_
    refine lm_iald C (v := (σ 1 3)) 1 rfl (by unfold vp_in; decide) rfl dX7_isFound_19 rfl ?_
    refine lm_aload_n C dX7_isFound_20 rfl 0 rfl rfl ?_
    refine lm_getf C (T := TX7) (N := 14) (v := .ref (a 1)) in7_X7_isFound 0 rfl rfl 0 (by decide) fl7_X7_isFound rfl rfl dX7_isFound_21 rfl ?_
    refine lm_iconst C (v := (4 : Int32)) dX7_isFound_24 (by decide) rfl ?_
    refine lm_iald C (v := (σ 1 4)) 1 rfl (by unfold vp_in; decide) rfl dX7_isFound_25 rfl ?_
    obtain ⟨r4, qr4, hF⟩ := lm_bde hF
    refine lm_callSR C (n := 3) (m_X7_in D z zo l   r3 (σ 1 3) (σ 1 4) r4 qr4) gX7_isFound_X7_in rfl (by decide +kernel) ⟨Nat.le_of_ble_eq_true rfl, Nat.le_of_ble_eq_true rfl⟩ ⟨Nat.le_of_ble_eq_true rfl, Nat.le_of_ble_eq_true rfl⟩ (fun _ h => absurd h List.not_mem_nil) rfl rfl (Nat.le_of_ble_eq_true rfl) dX7_isFound_26 (st' := [.int r4]) rfl rfl ?_
    refine lm_if_eq C (tgt := 36) dX7_isFound_29 (by decide) rfl (fun c5 => ?_) (fun c5 => ?_)
    · have hF := lm_brt hF c5
      refine lm_iconst C (v := (0 : Int32)) dX7_isFound_36 (by decide) rfl ?_
      cases hF
      exact lm_zretR C hr hk rfl rfl dX7_isFound_37
    · have hF := lm_brf hF c5
      refine lm_iconst C (v := (1 : Int32)) dX7_isFound_32 (by decide) rfl ?_
      refine lm_goto C (tgt := 37) dX7_isFound_33 (by decide) ?_
      cases hF
      exact lm_zretR C hr hk rfl rfl dX7_isFound_37
def F_X7_found_L4 : Nat → Hp → Int32 → Int32 → Int32 → Option Int32
  | 0, _, _, _, _ => none
  | n + 1, σx, x1, x2, x3 =>
    lm_br ((σx 1 5) ≤ x3)
     (some x2)
     (lm_bd (F_X7_isFound σx x3 x1) fun r2 =>
     lm_br (r2 = 0)
      (F_X7_found_L4 n σx x1 (x2 + (0 : Int32)) (x3 + (1 : Int32)))
      (F_X7_found_L4 n σx x1 (x2 + (1 : Int32)) (x3 + (1 : Int32))))
def F_X7_found (σ : Hp) (x1 : Int32) : Option Int32 :=
  F_X7_found_L4 1000 σ x1 (0 : Int32) (0 : Int32)
theorem in7_X7_found : ∀ w ∈ u_ws RX7 TX7 14, w ∈ wsX7_found := by decide +kernel
theorem fl7_X7_found : Cond.fieldLink RX7 7 "LoopMemoModel" "s" "[I" ∈ wsX7_found := by decide +kernel
set_option maxRecDepth 100000 in
set_option maxHeartbeats 4000000 in
theorem m_X7_found (D : va_G) (z zo : ClassId) (l : Launch) (a : Nat → Nat) (σ : Hp) (x1 : Int32) (r : Int32)  (hF : F_X7_found σ x1 = some r) : lm_CR D z zo l yX7_found wsX7_found 2 44 [.ref (a 0), .int x1] (mdW z a σ) (some (.int r)) := by
  refine lm_CR.of (by decide) rfl (Nat.le_of_ble_eq_true rfl) (own := RX7) rfl ?_
  intro p e s m_ args below meth c C hr hk
  have loop_4 : ∀ (n : Nat) (σx : Hp) (x1 : Int32) (x2 : Int32) (x3 : Int32), F_X7_found_L4 n σx x1 x2 x3 = some r → lm_St p l e ({ frames := 2, cells := 0, slots := 0, locals := 44 }) s m_ args below meth c D (fun _ => False) 4 0 0 (lm_EndR below (some (.int r)) args s) true (mdW z a σx) 4 [(0, .ref (a 0)), (1, .int x1), (2, .int x2), (3, .int x3)] [] := by
    intro n
    induction n with
    | zero => intro σx x1 x2 x3 hF; cases (show (none : Option _) = some _ from hF)
    | succ n ih =>
      intro σx x1 x2 x3 hF
      rw [F_X7_found_L4] at hF
      refine lm_iload_n C dX7_found_4 rfl 3 rfl rfl ?_
      refine lm_aload_n C dX7_found_5 rfl 0 rfl rfl ?_
      refine lm_getf C (T := TX7) (N := 14) (v := .ref (a 1)) in7_X7_found 0 rfl rfl 0 (by decide) fl7_X7_found rfl rfl dX7_found_6 rfl ?_
      refine lm_iconst C (v := (5 : Int32)) dX7_found_9 (by decide) rfl ?_
      refine lm_iald C (v := (σx 1 5)) 1 rfl (by unfold vp_in; decide) rfl dX7_found_10 rfl ?_
      refine lm_icmp_ge C (tgt := 37) dX7_found_11 (by decide) rfl (fun c1 => ?_) (fun c1 => ?_)
      · have hF := lm_brt hF c1
        refine lm_iload_n C dX7_found_37 rfl 2 rfl rfl ?_
        cases hF
        exact lm_iretR C hr hk rfl dX7_found_38
      · have hF := lm_brf hF c1
        refine lm_iload_n C dX7_found_14 rfl 2 rfl rfl ?_
        refine lm_aload_n C dX7_found_15 rfl 0 rfl rfl ?_
        refine lm_iload_n C dX7_found_16 rfl 3 rfl rfl ?_
        refine lm_iload_n C dX7_found_17 rfl 1 rfl rfl ?_
        obtain ⟨r2, qr2, hF⟩ := lm_bde hF
        refine lm_callVR C (n := 2) (ci := 7) (m_X7_isFound D z zo l a σx x3 x1 r2 qr2) gX7_found_X7_isFound rfl (by decide +kernel) ⟨Nat.le_of_ble_eq_true rfl, Nat.le_of_ble_eq_true rfl⟩ ⟨Nat.le_of_ble_eq_true rfl, Nat.le_of_ble_eq_true rfl⟩ 0 rfl rfl (fun _ h => h) rfl rfl (Nat.le_of_ble_eq_true rfl) dX7_found_18 (st' := [.int r2, .int x2]) rfl rfl ?_
        refine lm_if_eq C (tgt := 28) dX7_found_21 (by decide) rfl (fun c3 => ?_) (fun c3 => ?_)
        · have hF := lm_brt hF c3
          refine lm_iconst C (v := (0 : Int32)) dX7_found_28 (by decide) rfl ?_
          refine lm_iadd C dX7_found_29 rfl rfl ?_
          refine lm_istore_n C (lv' := [(0, .ref (a 0)), (1, .int x1), (2, .int (x2 + (0 : Int32))), (3, .int x3)]) dX7_found_30 rfl (by decide) rfl [1, 2, 0, 3] rfl rfl ?_
          refine lm_iinc C (lv' := [(0, .ref (a 0)), (1, .int x1), (2, .int (x2 + (0 : Int32))), (3, .int (x3 + (1 : Int32)))]) (x3 + (1 : Int32)) dX7_found_31 3 rfl rfl (by decide) rfl [1, 2, 3, 0] rfl rfl ?_
          refine lm_goto C (tgt := 4) dX7_found_34 (by decide) ?_
          exact ih σx x1 (x2 + (0 : Int32)) (x3 + (1 : Int32)) hF
        · have hF := lm_brf hF c3
          refine lm_iconst C (v := (1 : Int32)) dX7_found_24 (by decide) rfl ?_
          refine lm_goto C (tgt := 29) dX7_found_25 (by decide) ?_
          refine lm_iadd C dX7_found_29 rfl rfl ?_
          refine lm_istore_n C (lv' := [(0, .ref (a 0)), (1, .int x1), (2, .int (x2 + (1 : Int32))), (3, .int x3)]) dX7_found_30 rfl (by decide) rfl [1, 2, 0, 3] rfl rfl ?_
          refine lm_iinc C (lv' := [(0, .ref (a 0)), (1, .int x1), (2, .int (x2 + (1 : Int32))), (3, .int (x3 + (1 : Int32)))]) (x3 + (1 : Int32)) dX7_found_31 3 rfl rfl (by decide) rfl [1, 2, 3, 0] rfl rfl ?_
          refine lm_goto C (tgt := 4) dX7_found_34 (by decide) ?_
          exact ih σx x1 (x2 + (1 : Int32)) (x3 + (1 : Int32)) hF
  show lm_St p l e ({ frames := 2, cells := 0, slots := 0, locals := 44 }) s m_ args below meth c D (fun _ => False) 4 0 0 (lm_EndR below (some (.int r)) args s) true (mdW z a σ) 0 [(0, .ref (a 0)), (1, .int x1)] []
  rw [F_X7_found] at hF
  refine lm_iconst C (v := (0 : Int32)) dX7_found_0 (by decide) rfl ?_
  refine lm_istore_n C (lv' := [(0, .ref (a 0)), (1, .int x1), (2, .int (0 : Int32))]) dX7_found_1 rfl (by decide) rfl [1, 2, 0] rfl rfl ?_
  refine lm_iconst C (v := (0 : Int32)) dX7_found_2 (by decide) rfl ?_
  refine lm_istore_n C (lv' := [(0, .ref (a 0)), (1, .int x1), (2, .int (0 : Int32)), (3, .int (0 : Int32))]) dX7_found_3 rfl (by decide) rfl [1, 2, 3, 0] rfl rfl ?_
  exact loop_4 1000 σ x1 (0 : Int32) (0 : Int32) hF
def F_X7_weight (σ : Hp) (x1 : Int32) : Option Int32 :=
  lm_bd (F_X7_found σ x1) fun r1 =>
  some ((2 : Int32) + r1)
set_option maxRecDepth 100000 in
set_option maxHeartbeats 4000000 in
theorem m_X7_weight (D : va_G) (z zo : ClassId) (l : Launch) (a : Nat → Nat) (σ : Hp) (x1 : Int32) (r : Int32)  (hF : F_X7_weight σ x1 = some r) : lm_CR D z zo l yX7_weight wsX7_weight 3 67 [.ref (a 0), .int x1] (mdW z a σ) (some (.int r)) := by
  refine lm_CR.of (by decide) rfl (Nat.le_of_ble_eq_true rfl) (own := RX7) rfl ?_
  intro p e s m_ args below meth c C hr hk
  show lm_St p l e ({ frames := 3, cells := 0, slots := 0, locals := 67 }) s m_ args below meth c D (fun _ => False) 2 0 0 (lm_EndR below (some (.int r)) args s) true (mdW z a σ) 0 [(0, .ref (a 0)), (1, .int x1)] []
  rw [F_X7_weight] at hF
  refine lm_iconst C (v := (2 : Int32)) dX7_weight_0 (by decide) rfl ?_
  refine lm_aload_n C dX7_weight_1 rfl 0 rfl rfl ?_
  refine lm_iload_n C dX7_weight_2 rfl 1 rfl rfl ?_
  obtain ⟨r1, qr1, hF⟩ := lm_bde hF
  refine lm_callVR C (n := 1) (ci := 7) (m_X7_found D z zo l a σ x1 r1 qr1) gX7_weight_X7_found rfl (by decide +kernel) ⟨Nat.le_of_ble_eq_true rfl, Nat.le_of_ble_eq_true rfl⟩ ⟨Nat.le_of_ble_eq_true rfl, Nat.le_of_ble_eq_true rfl⟩ 0 rfl rfl (fun _ h => h) rfl rfl (Nat.le_of_ble_eq_true rfl) dX7_weight_3 (st' := [.int r1, .int (2 : Int32)]) rfl rfl ?_
  refine lm_iadd C dX7_weight_6 rfl rfl ?_
  cases hF
  exact lm_iretR C hr hk rfl dX7_weight_7
def F_X7_sum_L4 : Nat → Hp → Int32 → Int32 → Int32 → Option Int32
  | 0, _, _, _, _ => none
  | n + 1, σx, x1, x2, x3 =>
    lm_br ((σx 1 5) ≤ x3)
     (some x2)
     (lm_bd (F_X7_isFound σx x3 x1) fun r2 =>
     lm_br (r2 = 0)
      (F_X7_sum_L4 n σx x1 (x2 + (0 : Int32)) (x3 + (1 : Int32)))
      (lm_bd (F_X7_innerValue σx x3) fun r4 =>
      F_X7_sum_L4 n σx x1 (x2 + r4) (x3 + (1 : Int32))))
def F_X7_sum (σ : Hp) (x1 : Int32) : Option Int32 :=
  F_X7_sum_L4 1000 σ x1 (0 : Int32) (0 : Int32)
theorem in7_X7_sum : ∀ w ∈ u_ws RX7 TX7 14, w ∈ wsX7_sum := by decide +kernel
theorem fl7_X7_sum : Cond.fieldLink RX7 7 "LoopMemoModel" "s" "[I" ∈ wsX7_sum := by decide +kernel
set_option maxRecDepth 100000 in
set_option maxHeartbeats 4000000 in
theorem m_X7_sum (D : va_G) (z zo : ClassId) (l : Launch) (a : Nat → Nat) (σ : Hp) (x1 : Int32) (r : Int32)  (hF : F_X7_sum σ x1 = some r) : lm_CR D z zo l yX7_sum wsX7_sum 2 44 [.ref (a 0), .int x1] (mdW z a σ) (some (.int r)) := by
  refine lm_CR.of (by decide) rfl (Nat.le_of_ble_eq_true rfl) (own := RX7) rfl ?_
  intro p e s m_ args below meth c C hr hk
  have loop_4 : ∀ (n : Nat) (σx : Hp) (x1 : Int32) (x2 : Int32) (x3 : Int32), F_X7_sum_L4 n σx x1 x2 x3 = some r → lm_St p l e ({ frames := 2, cells := 0, slots := 0, locals := 44 }) s m_ args below meth c D (fun _ => False) 4 0 0 (lm_EndR below (some (.int r)) args s) true (mdW z a σx) 4 [(0, .ref (a 0)), (1, .int x1), (2, .int x2), (3, .int x3)] [] := by
    intro n
    induction n with
    | zero => intro σx x1 x2 x3 hF; cases (show (none : Option _) = some _ from hF)
    | succ n ih =>
      intro σx x1 x2 x3 hF
      rw [F_X7_sum_L4] at hF
      refine lm_iload_n C dX7_sum_4 rfl 3 rfl rfl ?_
      refine lm_aload_n C dX7_sum_5 rfl 0 rfl rfl ?_
      refine lm_getf C (T := TX7) (N := 14) (v := .ref (a 1)) in7_X7_sum 0 rfl rfl 0 (by decide) fl7_X7_sum rfl rfl dX7_sum_6 rfl ?_
      refine lm_iconst C (v := (5 : Int32)) dX7_sum_9 (by decide) rfl ?_
      refine lm_iald C (v := (σx 1 5)) 1 rfl (by unfold vp_in; decide) rfl dX7_sum_10 rfl ?_
      refine lm_icmp_ge C (tgt := 41) dX7_sum_11 (by decide) rfl (fun c1 => ?_) (fun c1 => ?_)
      · have hF := lm_brt hF c1
        refine lm_iload_n C dX7_sum_41 rfl 2 rfl rfl ?_
        cases hF
        exact lm_iretR C hr hk rfl dX7_sum_42
      · have hF := lm_brf hF c1
        refine lm_iload_n C dX7_sum_14 rfl 2 rfl rfl ?_
        refine lm_aload_n C dX7_sum_15 rfl 0 rfl rfl ?_
        refine lm_iload_n C dX7_sum_16 rfl 3 rfl rfl ?_
        refine lm_iload_n C dX7_sum_17 rfl 1 rfl rfl ?_
        obtain ⟨r2, qr2, hF⟩ := lm_bde hF
        refine lm_callVR C (n := 2) (ci := 7) (m_X7_isFound D z zo l a σx x3 x1 r2 qr2) gX7_sum_X7_isFound rfl (by decide +kernel) ⟨Nat.le_of_ble_eq_true rfl, Nat.le_of_ble_eq_true rfl⟩ ⟨Nat.le_of_ble_eq_true rfl, Nat.le_of_ble_eq_true rfl⟩ 0 rfl rfl (fun _ h => h) rfl rfl (Nat.le_of_ble_eq_true rfl) dX7_sum_18 (st' := [.int r2, .int x2]) rfl rfl ?_
        refine lm_if_eq C (tgt := 32) dX7_sum_21 (by decide) rfl (fun c3 => ?_) (fun c3 => ?_)
        · have hF := lm_brt hF c3
          refine lm_iconst C (v := (0 : Int32)) dX7_sum_32 (by decide) rfl ?_
          refine lm_iadd C dX7_sum_33 rfl rfl ?_
          refine lm_istore_n C (lv' := [(0, .ref (a 0)), (1, .int x1), (2, .int (x2 + (0 : Int32))), (3, .int x3)]) dX7_sum_34 rfl (by decide) rfl [1, 2, 0, 3] rfl rfl ?_
          refine lm_iinc C (lv' := [(0, .ref (a 0)), (1, .int x1), (2, .int (x2 + (0 : Int32))), (3, .int (x3 + (1 : Int32)))]) (x3 + (1 : Int32)) dX7_sum_35 3 rfl rfl (by decide) rfl [1, 2, 3, 0] rfl rfl ?_
          refine lm_goto C (tgt := 4) dX7_sum_38 (by decide) ?_
          exact ih σx x1 (x2 + (0 : Int32)) (x3 + (1 : Int32)) hF
        · have hF := lm_brf hF c3
          refine lm_aload_n C dX7_sum_24 rfl 0 rfl rfl ?_
          refine lm_iload_n C dX7_sum_25 rfl 3 rfl rfl ?_
          obtain ⟨r4, qr4, hF⟩ := lm_bde hF
          refine lm_callVR C (n := 1) (ci := 7) (m_X7_innerValue D z zo l a σx x3 r4 qr4) gX7_sum_X7_innerValue rfl (by decide +kernel) ⟨Nat.le_of_ble_eq_true rfl, Nat.le_of_ble_eq_true rfl⟩ ⟨Nat.le_of_ble_eq_true rfl, Nat.le_of_ble_eq_true rfl⟩ 0 rfl rfl (fun _ h => h) rfl rfl (Nat.le_of_ble_eq_true rfl) dX7_sum_26 (st' := [.int r4, .int x2]) rfl rfl ?_
          refine lm_goto C (tgt := 33) dX7_sum_29 (by decide) ?_
          refine lm_iadd C dX7_sum_33 rfl rfl ?_
          refine lm_istore_n C (lv' := [(0, .ref (a 0)), (1, .int x1), (2, .int (x2 + r4)), (3, .int x3)]) dX7_sum_34 rfl (by decide) rfl [1, 2, 0, 3] rfl rfl ?_
          refine lm_iinc C (lv' := [(0, .ref (a 0)), (1, .int x1), (2, .int (x2 + r4)), (3, .int (x3 + (1 : Int32)))]) (x3 + (1 : Int32)) dX7_sum_35 3 rfl rfl (by decide) rfl [1, 2, 3, 0] rfl rfl ?_
          refine lm_goto C (tgt := 4) dX7_sum_38 (by decide) ?_
          exact ih σx x1 (x2 + r4) (x3 + (1 : Int32)) hF
  show lm_St p l e ({ frames := 2, cells := 0, slots := 0, locals := 44 }) s m_ args below meth c D (fun _ => False) 4 0 0 (lm_EndR below (some (.int r)) args s) true (mdW z a σ) 0 [(0, .ref (a 0)), (1, .int x1)] []
  rw [F_X7_sum] at hF
  refine lm_iconst C (v := (0 : Int32)) dX7_sum_0 (by decide) rfl ?_
  refine lm_istore_n C (lv' := [(0, .ref (a 0)), (1, .int x1), (2, .int (0 : Int32))]) dX7_sum_1 rfl (by decide) rfl [1, 2, 0] rfl rfl ?_
  refine lm_iconst C (v := (0 : Int32)) dX7_sum_2 (by decide) rfl ?_
  refine lm_istore_n C (lv' := [(0, .ref (a 0)), (1, .int x1), (2, .int (0 : Int32)), (3, .int (0 : Int32))]) dX7_sum_3 rfl (by decide) rfl [1, 2, 3, 0] rfl rfl ?_
  exact loop_4 1000 σ x1 (0 : Int32) (0 : Int32) hF
def F_X7_firstRow_L2 : Nat → Hp → Int32 → Int32 → Option Int32
  | 0, _, _, _ => none
  | n + 1, σx, x1, x2 =>
    lm_br ((σx 1 5) ≤ x2)
     (some (-4 : Int32))
     (lm_bd (F_X7_isFound σx x2 x1) fun r2 =>
     lm_br (r2 = 0)
      (F_X7_firstRow_L2 n σx x1 (x2 + (1 : Int32)))
      (some x2))
def F_X7_firstRow (σ : Hp) (x1 : Int32) : Option Int32 :=
  F_X7_firstRow_L2 1000 σ x1 (0 : Int32)
theorem in7_X7_firstRow : ∀ w ∈ u_ws RX7 TX7 14, w ∈ wsX7_firstRow := by decide +kernel
theorem fl7_X7_firstRow : Cond.fieldLink RX7 7 "LoopMemoModel" "s" "[I" ∈ wsX7_firstRow := by decide +kernel
set_option maxRecDepth 100000 in
set_option maxHeartbeats 4000000 in
theorem m_X7_firstRow (D : va_G) (z zo : ClassId) (l : Launch) (a : Nat → Nat) (σ : Hp) (x1 : Int32) (r : Int32)  (hF : F_X7_firstRow σ x1 = some r) : lm_CR D z zo l yX7_firstRow wsX7_firstRow 2 44 [.ref (a 0), .int x1] (mdW z a σ) (some (.int r)) := by
  refine lm_CR.of (by decide) rfl (Nat.le_of_ble_eq_true rfl) (own := RX7) rfl ?_
  intro p e s m_ args below meth c C hr hk
  have loop_2 : ∀ (n : Nat) (σx : Hp) (x1 : Int32) (x2 : Int32), F_X7_firstRow_L2 n σx x1 x2 = some r → lm_St p l e ({ frames := 2, cells := 0, slots := 0, locals := 44 }) s m_ args below meth c D (fun _ => False) 3 0 0 (lm_EndR below (some (.int r)) args s) true (mdW z a σx) 2 [(0, .ref (a 0)), (1, .int x1), (2, .int x2)] [] := by
    intro n
    induction n with
    | zero => intro σx x1 x2 hF; cases (show (none : Option _) = some _ from hF)
    | succ n ih =>
      intro σx x1 x2 hF
      rw [F_X7_firstRow_L2] at hF
      refine lm_iload_n C dX7_firstRow_2 rfl 2 rfl rfl ?_
      refine lm_aload_n C dX7_firstRow_3 rfl 0 rfl rfl ?_
      refine lm_getf C (T := TX7) (N := 14) (v := .ref (a 1)) in7_X7_firstRow 0 rfl rfl 0 (by decide) fl7_X7_firstRow rfl rfl dX7_firstRow_4 rfl ?_
      refine lm_iconst C (v := (5 : Int32)) dX7_firstRow_7 (by decide) rfl ?_
      refine lm_iald C (v := (σx 1 5)) 1 rfl (by unfold vp_in; decide) rfl dX7_firstRow_8 rfl ?_
      refine lm_icmp_ge C (tgt := 29) dX7_firstRow_9 (by decide) rfl (fun c1 => ?_) (fun c1 => ?_)
      · have hF := lm_brt hF c1
        refine lm_bipush C (v := (-4 : Int32)) dX7_firstRow_29 (by decide) rfl ?_
        cases hF
        exact lm_iretR C hr hk rfl dX7_firstRow_31
      · have hF := lm_brf hF c1
        refine lm_aload_n C dX7_firstRow_12 rfl 0 rfl rfl ?_
        refine lm_iload_n C dX7_firstRow_13 rfl 2 rfl rfl ?_
        refine lm_iload_n C dX7_firstRow_14 rfl 1 rfl rfl ?_
        obtain ⟨r2, qr2, hF⟩ := lm_bde hF
        refine lm_callVR C (n := 2) (ci := 7) (m_X7_isFound D z zo l a σx x2 x1 r2 qr2) gX7_firstRow_X7_isFound rfl (by decide +kernel) ⟨Nat.le_of_ble_eq_true rfl, Nat.le_of_ble_eq_true rfl⟩ ⟨Nat.le_of_ble_eq_true rfl, Nat.le_of_ble_eq_true rfl⟩ 0 rfl rfl (fun _ h => h) rfl rfl (Nat.le_of_ble_eq_true rfl) dX7_firstRow_15 (st' := [.int r2]) rfl rfl ?_
        refine lm_if_eq C (tgt := 23) dX7_firstRow_18 (by decide) rfl (fun c3 => ?_) (fun c3 => ?_)
        · have hF := lm_brt hF c3
          refine lm_iinc C (lv' := [(0, .ref (a 0)), (1, .int x1), (2, .int (x2 + (1 : Int32)))]) (x2 + (1 : Int32)) dX7_firstRow_23 2 rfl rfl (by decide) rfl [1, 2, 0] rfl rfl ?_
          refine lm_goto C (tgt := 2) dX7_firstRow_26 (by decide) ?_
          exact ih σx x1 (x2 + (1 : Int32)) hF
        · have hF := lm_brf hF c3
          refine lm_iload_n C dX7_firstRow_21 rfl 2 rfl rfl ?_
          cases hF
          exact lm_iretR C hr hk rfl dX7_firstRow_22
  show lm_St p l e ({ frames := 2, cells := 0, slots := 0, locals := 44 }) s m_ args below meth c D (fun _ => False) 3 0 0 (lm_EndR below (some (.int r)) args s) true (mdW z a σ) 0 [(0, .ref (a 0)), (1, .int x1)] []
  rw [F_X7_firstRow] at hF
  refine lm_iconst C (v := (0 : Int32)) dX7_firstRow_0 (by decide) rfl ?_
  refine lm_istore_n C (lv' := [(0, .ref (a 0)), (1, .int x1), (2, .int (0 : Int32))]) dX7_firstRow_1 rfl (by decide) rfl [1, 2, 0] rfl rfl ?_
  exact loop_2 1000 σ x1 (0 : Int32) hF
def F_X7_tell (σ : Hp) (x1 x2 : Int32) : Option Int32 :=
  lm_br (¬ x2 = 0)
   (lm_br (¬ x2 = (1 : Int32))
    (lm_br (¬ x2 = (2 : Int32))
     (lm_bd (F_X7_firstRow σ x1) fun r4 =>
     some r4)
     (lm_bd (F_X7_sum σ x1) fun r5 =>
     some r5))
    (lm_bd (F_X7_weight σ x1) fun r6 =>
    some r6))
   (lm_bd (F_X7_found σ x1) fun r7 =>
   some r7)
set_option maxRecDepth 100000 in
set_option maxHeartbeats 4000000 in
theorem m_X7_tell (D : va_G) (z zo : ClassId) (l : Launch) (a : Nat → Nat) (σ : Hp) (x1 x2 : Int32) (r : Int32)  (hF : F_X7_tell σ x1 x2 = some r) : lm_CR D z zo l yX7_tell wsX7_tell 4 88 [.ref (a 0), .int x1, .int x2] (mdW z a σ) (some (.int r)) := by
  refine lm_CR.of (by decide) rfl (Nat.le_of_ble_eq_true rfl) (own := RX7) rfl ?_
  intro p e s m_ args below meth c C hr hk
  show lm_St p l e ({ frames := 4, cells := 0, slots := 0, locals := 88 }) s m_ args below meth c D (fun _ => False) 3 0 0 (lm_EndR below (some (.int r)) args s) true (mdW z a σ) 0 [(0, .ref (a 0)), (1, .int x1), (2, .int x2)] []
  rw [F_X7_tell] at hF
  refine lm_iload_n C dX7_tell_0 rfl 2 rfl rfl ?_
  refine lm_if_ne C (tgt := 12) dX7_tell_1 (by decide) rfl (fun c1 => ?_) (fun c1 => ?_)
  · have hF := lm_brt hF c1
    refine lm_iload_n C dX7_tell_12 rfl 2 rfl rfl ?_
    refine lm_iconst C (v := (1 : Int32)) dX7_tell_13 (by decide) rfl ?_
    refine lm_icmp_ne C (tgt := 25) dX7_tell_14 (by decide) rfl (fun c2 => ?_) (fun c2 => ?_)
    · have hF := lm_brt hF c2
      refine lm_iload_n C dX7_tell_25 rfl 2 rfl rfl ?_
      refine lm_iconst C (v := (2 : Int32)) dX7_tell_26 (by decide) rfl ?_
      refine lm_icmp_ne C (tgt := 38) dX7_tell_27 (by decide) rfl (fun c3 => ?_) (fun c3 => ?_)
      · have hF := lm_brt hF c3
        refine lm_aload_n C dX7_tell_38 rfl 0 rfl rfl ?_
        refine lm_iload_n C dX7_tell_39 rfl 1 rfl rfl ?_
        obtain ⟨r4, qr4, hF⟩ := lm_bde hF
        refine lm_callVR C (n := 1) (ci := 7) (m_X7_firstRow D z zo l a σ x1 r4 qr4) gX7_tell_X7_firstRow rfl (by decide +kernel) ⟨Nat.le_of_ble_eq_true rfl, Nat.le_of_ble_eq_true rfl⟩ ⟨Nat.le_of_ble_eq_true rfl, Nat.le_of_ble_eq_true rfl⟩ 0 rfl rfl (fun _ h => h) rfl rfl (Nat.le_of_ble_eq_true rfl) dX7_tell_40 (st' := [.int r4]) rfl rfl ?_
        cases hF
        exact lm_iretR C hr hk rfl dX7_tell_43
      · have hF := lm_brf hF c3
        refine lm_aload_n C dX7_tell_30 rfl 0 rfl rfl ?_
        refine lm_iload_n C dX7_tell_31 rfl 1 rfl rfl ?_
        obtain ⟨r5, qr5, hF⟩ := lm_bde hF
        refine lm_callVR C (n := 1) (ci := 7) (m_X7_sum D z zo l a σ x1 r5 qr5) gX7_tell_X7_sum rfl (by decide +kernel) ⟨Nat.le_of_ble_eq_true rfl, Nat.le_of_ble_eq_true rfl⟩ ⟨Nat.le_of_ble_eq_true rfl, Nat.le_of_ble_eq_true rfl⟩ 0 rfl rfl (fun _ h => h) rfl rfl (Nat.le_of_ble_eq_true rfl) dX7_tell_32 (st' := [.int r5]) rfl rfl ?_
        refine lm_goto C (tgt := 43) dX7_tell_35 (by decide) ?_
        cases hF
        exact lm_iretR C hr hk rfl dX7_tell_43
    · have hF := lm_brf hF c2
      refine lm_aload_n C dX7_tell_17 rfl 0 rfl rfl ?_
      refine lm_iload_n C dX7_tell_18 rfl 1 rfl rfl ?_
      obtain ⟨r6, qr6, hF⟩ := lm_bde hF
      refine lm_callVR C (n := 1) (ci := 7) (m_X7_weight D z zo l a σ x1 r6 qr6) gX7_tell_X7_weight rfl (by decide +kernel) ⟨Nat.le_of_ble_eq_true rfl, Nat.le_of_ble_eq_true rfl⟩ ⟨Nat.le_of_ble_eq_true rfl, Nat.le_of_ble_eq_true rfl⟩ 0 rfl rfl (fun _ h => h) rfl rfl (Nat.le_of_ble_eq_true rfl) dX7_tell_19 (st' := [.int r6]) rfl rfl ?_
      refine lm_goto C (tgt := 43) dX7_tell_22 (by decide) ?_
      cases hF
      exact lm_iretR C hr hk rfl dX7_tell_43
  · have hF := lm_brf hF c1
    refine lm_aload_n C dX7_tell_4 rfl 0 rfl rfl ?_
    refine lm_iload_n C dX7_tell_5 rfl 1 rfl rfl ?_
    obtain ⟨r7, qr7, hF⟩ := lm_bde hF
    refine lm_callVR C (n := 1) (ci := 7) (m_X7_found D z zo l a σ x1 r7 qr7) gX7_tell_X7_found rfl (by decide +kernel) ⟨Nat.le_of_ble_eq_true rfl, Nat.le_of_ble_eq_true rfl⟩ ⟨Nat.le_of_ble_eq_true rfl, Nat.le_of_ble_eq_true rfl⟩ 0 rfl rfl (fun _ h => h) rfl rfl (Nat.le_of_ble_eq_true rfl) dX7_tell_6 (st' := [.int r7]) rfl rfl ?_
    refine lm_goto C (tgt := 43) dX7_tell_9 (by decide) ?_
    cases hF
    exact lm_iretR C hr hk rfl dX7_tell_43
def F_X7_isKnown (σ : Hp) (x1 : Int32) : Option Int32 :=
  lm_gi ((97 : Int32) + x1) 127
  (lm_br ((σ 1 (((97 : Int32) + x1)).toNatClampNeg) ≤ 0)
   (some (0 : Int32))
   (some (1 : Int32)))
theorem in7_X7_isKnown : ∀ w ∈ u_ws RX7 TX7 14, w ∈ wsX7_isKnown := by decide +kernel
theorem fl7_X7_isKnown : Cond.fieldLink RX7 7 "LoopMemoModel" "s" "[I" ∈ wsX7_isKnown := by decide +kernel
set_option maxRecDepth 100000 in
set_option maxHeartbeats 4000000 in
theorem m_X7_isKnown (D : va_G) (z zo : ClassId) (l : Launch) (a : Nat → Nat) (σ : Hp) (x1 : Int32) (r : Int32)  (hF : F_X7_isKnown σ x1 = some r) : lm_CR D z zo l yX7_isKnown wsX7_isKnown 0 0 [.ref (a 0), .int x1] (mdW z a σ) (some (.int r)) := by
  refine lm_CR.of (by decide) rfl (Nat.le_of_ble_eq_true rfl) (own := RX7) rfl ?_
  intro p e s m_ args below meth c C hr hk
  show lm_St p l e ({ frames := 0, cells := 0, slots := 0, locals := 0 }) s m_ args below meth c D (fun _ => False) 2 0 0 (lm_EndR below (some (.int r)) args s) true (mdW z a σ) 0 [(0, .ref (a 0)), (1, .int x1)] []
  rw [F_X7_isKnown] at hF
  refine lm_aload_n C dX7_isKnown_0 rfl 0 rfl rfl ?_
  refine lm_getf C (T := TX7) (N := 14) (v := .ref (a 1)) in7_X7_isKnown 0 rfl rfl 0 (by decide) fl7_X7_isKnown rfl rfl dX7_isKnown_1 rfl ?_
  refine lm_bipush C (v := (97 : Int32)) dX7_isKnown_4 (by decide) rfl ?_
  refine lm_iload_n C dX7_isKnown_6 rfl 1 rfl rfl ?_
  refine lm_iadd C dX7_isKnown_7 rfl rfl ?_
  obtain ⟨b1, hF⟩ := lm_gie hF
  refine lm_iald C (v := (σ 1 (((97 : Int32) + x1)).toNatClampNeg)) 1 rfl b1 rfl dX7_isKnown_8 rfl ?_
  refine lm_if_le C (tgt := 16) dX7_isKnown_9 (by decide) rfl (fun c2 => ?_) (fun c2 => ?_)
  · have hF := lm_brt hF c2
    refine lm_iconst C (v := (0 : Int32)) dX7_isKnown_16 (by decide) rfl ?_
    cases hF
    exact lm_zretR C hr hk rfl rfl dX7_isKnown_17
  · have hF := lm_brf hF c2
    refine lm_iconst C (v := (1 : Int32)) dX7_isKnown_12 (by decide) rfl ?_
    refine lm_goto C (tgt := 17) dX7_isKnown_13 (by decide) ?_
    cases hF
    exact lm_zretR C hr hk rfl rfl dX7_isKnown_17
def F_X7_known_L4 : Nat → Hp → Int32 → Int32 → Option Int32
  | 0, _, _, _ => none
  | n + 1, σx, x1, x2 =>
    lm_br ((10 : Int32) ≤ x2)
     (some x1)
     (lm_bd (F_X7_isKnown σx x2) fun r2 =>
     lm_br (r2 = 0)
      (F_X7_known_L4 n σx (x1 + (0 : Int32)) (x2 + (1 : Int32)))
      (F_X7_known_L4 n σx (x1 + (1 : Int32)) (x2 + (1 : Int32))))
def F_X7_known (σ : Hp)  : Option Int32 :=
  F_X7_known_L4 1000 σ (0 : Int32) (0 : Int32)
set_option maxRecDepth 100000 in
set_option maxHeartbeats 4000000 in
theorem m_X7_known (D : va_G) (z zo : ClassId) (l : Launch) (a : Nat → Nat) (σ : Hp)  (r : Int32)  (hF : F_X7_known σ  = some r) : lm_CR D z zo l yX7_known wsX7_known 1 21 [.ref (a 0)] (mdW z a σ) (some (.int r)) := by
  refine lm_CR.of (by decide) rfl (Nat.le_of_ble_eq_true rfl) (own := RX7) rfl ?_
  intro p e s m_ args below meth c C hr hk
  have loop_4 : ∀ (n : Nat) (σx : Hp) (x1 : Int32) (x2 : Int32), F_X7_known_L4 n σx x1 x2 = some r → lm_St p l e ({ frames := 1, cells := 0, slots := 0, locals := 21 }) s m_ args below meth c D (fun _ => False) 3 0 0 (lm_EndR below (some (.int r)) args s) true (mdW z a σx) 4 [(0, .ref (a 0)), (1, .int x1), (2, .int x2)] [] := by
    intro n
    induction n with
    | zero => intro σx x1 x2 hF; cases (show (none : Option _) = some _ from hF)
    | succ n ih =>
      intro σx x1 x2 hF
      rw [F_X7_known_L4] at hF
      refine lm_iload_n C dX7_known_4 rfl 2 rfl rfl ?_
      refine lm_bipush C (v := (10 : Int32)) dX7_known_5 (by decide) rfl ?_
      refine lm_icmp_ge C (tgt := 32) dX7_known_7 (by decide) rfl (fun c1 => ?_) (fun c1 => ?_)
      · have hF := lm_brt hF c1
        refine lm_iload_n C dX7_known_32 rfl 1 rfl rfl ?_
        cases hF
        exact lm_iretR C hr hk rfl dX7_known_33
      · have hF := lm_brf hF c1
        refine lm_iload_n C dX7_known_10 rfl 1 rfl rfl ?_
        refine lm_aload_n C dX7_known_11 rfl 0 rfl rfl ?_
        refine lm_iload_n C dX7_known_12 rfl 2 rfl rfl ?_
        obtain ⟨r2, qr2, hF⟩ := lm_bde hF
        refine lm_callVR C (n := 1) (ci := 7) (m_X7_isKnown D z zo l a σx x2 r2 qr2) gX7_known_X7_isKnown rfl (by decide +kernel) ⟨Nat.le_of_ble_eq_true rfl, Nat.le_of_ble_eq_true rfl⟩ ⟨Nat.le_of_ble_eq_true rfl, Nat.le_of_ble_eq_true rfl⟩ 0 rfl rfl (fun _ h => h) rfl rfl (Nat.le_of_ble_eq_true rfl) dX7_known_13 (st' := [.int r2, .int x1]) rfl rfl ?_
        refine lm_if_eq C (tgt := 23) dX7_known_16 (by decide) rfl (fun c3 => ?_) (fun c3 => ?_)
        · have hF := lm_brt hF c3
          refine lm_iconst C (v := (0 : Int32)) dX7_known_23 (by decide) rfl ?_
          refine lm_iadd C dX7_known_24 rfl rfl ?_
          refine lm_istore_n C (lv' := [(0, .ref (a 0)), (1, .int (x1 + (0 : Int32))), (2, .int x2)]) dX7_known_25 rfl (by decide) rfl [1, 0, 2] rfl rfl ?_
          refine lm_iinc C (lv' := [(0, .ref (a 0)), (1, .int (x1 + (0 : Int32))), (2, .int (x2 + (1 : Int32)))]) (x2 + (1 : Int32)) dX7_known_26 2 rfl rfl (by decide) rfl [1, 2, 0] rfl rfl ?_
          refine lm_goto C (tgt := 4) dX7_known_29 (by decide) ?_
          exact ih σx (x1 + (0 : Int32)) (x2 + (1 : Int32)) hF
        · have hF := lm_brf hF c3
          refine lm_iconst C (v := (1 : Int32)) dX7_known_19 (by decide) rfl ?_
          refine lm_goto C (tgt := 24) dX7_known_20 (by decide) ?_
          refine lm_iadd C dX7_known_24 rfl rfl ?_
          refine lm_istore_n C (lv' := [(0, .ref (a 0)), (1, .int (x1 + (1 : Int32))), (2, .int x2)]) dX7_known_25 rfl (by decide) rfl [1, 0, 2] rfl rfl ?_
          refine lm_iinc C (lv' := [(0, .ref (a 0)), (1, .int (x1 + (1 : Int32))), (2, .int (x2 + (1 : Int32)))]) (x2 + (1 : Int32)) dX7_known_26 2 rfl rfl (by decide) rfl [1, 2, 0] rfl rfl ?_
          refine lm_goto C (tgt := 4) dX7_known_29 (by decide) ?_
          exact ih σx (x1 + (1 : Int32)) (x2 + (1 : Int32)) hF
  show lm_St p l e ({ frames := 1, cells := 0, slots := 0, locals := 21 }) s m_ args below meth c D (fun _ => False) 3 0 0 (lm_EndR below (some (.int r)) args s) true (mdW z a σ) 0 [(0, .ref (a 0))] []
  rw [F_X7_known] at hF
  refine lm_iconst C (v := (0 : Int32)) dX7_known_0 (by decide) rfl ?_
  refine lm_istore_n C (lv' := [(0, .ref (a 0)), (1, .int (0 : Int32))]) dX7_known_1 rfl (by decide) rfl [1, 0] rfl rfl ?_
  refine lm_iconst C (v := (0 : Int32)) dX7_known_2 (by decide) rfl ?_
  refine lm_istore_n C (lv' := [(0, .ref (a 0)), (1, .int (0 : Int32)), (2, .int (0 : Int32))]) dX7_known_3 rfl (by decide) rfl [1, 2, 0] rfl rfl ?_
  exact loop_4 1000 σ (0 : Int32) (0 : Int32) hF
def F_X7_weights_L4 : Nat → Hp → Int32 → Int32 → Option Int32
  | 0, _, _, _ => none
  | n + 1, σx, x1, x2 =>
    lm_br ((10 : Int32) ≤ x2)
     (some x1)
     (lm_bd (F_X7_isKnown σx x2) fun r2 =>
     lm_br (r2 = 0)
      (F_X7_weights_L4 n σx (x1 + (0 : Int32)) (x2 + (1 : Int32)))
      (lm_bd (F_X7_weight σx x2) fun r4 =>
      F_X7_weights_L4 n σx (x1 + r4) (x2 + (1 : Int32))))
def F_X7_weights (σ : Hp)  : Option Int32 :=
  F_X7_weights_L4 1000 σ (0 : Int32) (0 : Int32)
set_option maxRecDepth 100000 in
set_option maxHeartbeats 4000000 in
theorem m_X7_weights (D : va_G) (z zo : ClassId) (l : Launch) (a : Nat → Nat) (σ : Hp)  (r : Int32)  (hF : F_X7_weights σ  = some r) : lm_CR D z zo l yX7_weights wsX7_weights 4 88 [.ref (a 0)] (mdW z a σ) (some (.int r)) := by
  refine lm_CR.of (by decide) rfl (Nat.le_of_ble_eq_true rfl) (own := RX7) rfl ?_
  intro p e s m_ args below meth c C hr hk
  have loop_4 : ∀ (n : Nat) (σx : Hp) (x1 : Int32) (x2 : Int32), F_X7_weights_L4 n σx x1 x2 = some r → lm_St p l e ({ frames := 4, cells := 0, slots := 0, locals := 88 }) s m_ args below meth c D (fun _ => False) 3 0 0 (lm_EndR below (some (.int r)) args s) true (mdW z a σx) 4 [(0, .ref (a 0)), (1, .int x1), (2, .int x2)] [] := by
    intro n
    induction n with
    | zero => intro σx x1 x2 hF; cases (show (none : Option _) = some _ from hF)
    | succ n ih =>
      intro σx x1 x2 hF
      rw [F_X7_weights_L4] at hF
      refine lm_iload_n C dX7_weights_4 rfl 2 rfl rfl ?_
      refine lm_bipush C (v := (10 : Int32)) dX7_weights_5 (by decide) rfl ?_
      refine lm_icmp_ge C (tgt := 36) dX7_weights_7 (by decide) rfl (fun c1 => ?_) (fun c1 => ?_)
      · have hF := lm_brt hF c1
        refine lm_iload_n C dX7_weights_36 rfl 1 rfl rfl ?_
        cases hF
        exact lm_iretR C hr hk rfl dX7_weights_37
      · have hF := lm_brf hF c1
        refine lm_iload_n C dX7_weights_10 rfl 1 rfl rfl ?_
        refine lm_aload_n C dX7_weights_11 rfl 0 rfl rfl ?_
        refine lm_iload_n C dX7_weights_12 rfl 2 rfl rfl ?_
        obtain ⟨r2, qr2, hF⟩ := lm_bde hF
        refine lm_callVR C (n := 1) (ci := 7) (m_X7_isKnown D z zo l a σx x2 r2 qr2) gX7_weights_X7_isKnown rfl (by decide +kernel) ⟨Nat.le_of_ble_eq_true rfl, Nat.le_of_ble_eq_true rfl⟩ ⟨Nat.le_of_ble_eq_true rfl, Nat.le_of_ble_eq_true rfl⟩ 0 rfl rfl (fun _ h => h) rfl rfl (Nat.le_of_ble_eq_true rfl) dX7_weights_13 (st' := [.int r2, .int x1]) rfl rfl ?_
        refine lm_if_eq C (tgt := 27) dX7_weights_16 (by decide) rfl (fun c3 => ?_) (fun c3 => ?_)
        · have hF := lm_brt hF c3
          refine lm_iconst C (v := (0 : Int32)) dX7_weights_27 (by decide) rfl ?_
          refine lm_iadd C dX7_weights_28 rfl rfl ?_
          refine lm_istore_n C (lv' := [(0, .ref (a 0)), (1, .int (x1 + (0 : Int32))), (2, .int x2)]) dX7_weights_29 rfl (by decide) rfl [1, 0, 2] rfl rfl ?_
          refine lm_iinc C (lv' := [(0, .ref (a 0)), (1, .int (x1 + (0 : Int32))), (2, .int (x2 + (1 : Int32)))]) (x2 + (1 : Int32)) dX7_weights_30 2 rfl rfl (by decide) rfl [1, 2, 0] rfl rfl ?_
          refine lm_goto C (tgt := 4) dX7_weights_33 (by decide) ?_
          exact ih σx (x1 + (0 : Int32)) (x2 + (1 : Int32)) hF
        · have hF := lm_brf hF c3
          refine lm_aload_n C dX7_weights_19 rfl 0 rfl rfl ?_
          refine lm_iload_n C dX7_weights_20 rfl 2 rfl rfl ?_
          obtain ⟨r4, qr4, hF⟩ := lm_bde hF
          refine lm_callVR C (n := 1) (ci := 7) (m_X7_weight D z zo l a σx x2 r4 qr4) gX7_weights_X7_weight rfl (by decide +kernel) ⟨Nat.le_of_ble_eq_true rfl, Nat.le_of_ble_eq_true rfl⟩ ⟨Nat.le_of_ble_eq_true rfl, Nat.le_of_ble_eq_true rfl⟩ 0 rfl rfl (fun _ h => h) rfl rfl (Nat.le_of_ble_eq_true rfl) dX7_weights_21 (st' := [.int r4, .int x1]) rfl rfl ?_
          refine lm_goto C (tgt := 28) dX7_weights_24 (by decide) ?_
          refine lm_iadd C dX7_weights_28 rfl rfl ?_
          refine lm_istore_n C (lv' := [(0, .ref (a 0)), (1, .int (x1 + r4)), (2, .int x2)]) dX7_weights_29 rfl (by decide) rfl [1, 0, 2] rfl rfl ?_
          refine lm_iinc C (lv' := [(0, .ref (a 0)), (1, .int (x1 + r4)), (2, .int (x2 + (1 : Int32)))]) (x2 + (1 : Int32)) dX7_weights_30 2 rfl rfl (by decide) rfl [1, 2, 0] rfl rfl ?_
          refine lm_goto C (tgt := 4) dX7_weights_33 (by decide) ?_
          exact ih σx (x1 + r4) (x2 + (1 : Int32)) hF
  show lm_St p l e ({ frames := 4, cells := 0, slots := 0, locals := 88 }) s m_ args below meth c D (fun _ => False) 3 0 0 (lm_EndR below (some (.int r)) args s) true (mdW z a σ) 0 [(0, .ref (a 0))] []
  rw [F_X7_weights] at hF
  refine lm_iconst C (v := (0 : Int32)) dX7_weights_0 (by decide) rfl ?_
  refine lm_istore_n C (lv' := [(0, .ref (a 0)), (1, .int (0 : Int32))]) dX7_weights_1 rfl (by decide) rfl [1, 0] rfl rfl ?_
  refine lm_iconst C (v := (0 : Int32)) dX7_weights_2 (by decide) rfl ?_
  refine lm_istore_n C (lv' := [(0, .ref (a 0)), (1, .int (0 : Int32)), (2, .int (0 : Int32))]) dX7_weights_3 rfl (by decide) rfl [1, 2, 0] rfl rfl ?_
  exact loop_4 1000 σ (0 : Int32) (0 : Int32) hF
def F_X7_isAhead (σ : Hp) (x1 x2 : Int32) : Option Int32 :=
  lm_br (¬ (σ 1 1) = (2 : Int32))
   (lm_br (¬ (σ 1 1) = (1 : Int32))
    (lm_gi ((107 : Int32) + x1) 127
    (lm_gi ((107 : Int32) + x2) 127
    (lm_br ((σ 1 (((107 : Int32) + x2)).toNatClampNeg) ≤ (σ 1 (((107 : Int32) + x1)).toNatClampNeg))
     (some (0 : Int32))
     (some (1 : Int32)))))
    (lm_gi ((97 : Int32) + x1) 127
    (lm_gi ((97 : Int32) + x2) 127
    (lm_lt ((σ 1 (((97 : Int32) + x1)).toNatClampNeg) - (σ 1 (((97 : Int32) + x2)).toNatClampNeg)) fun t10 =>
    lm_br (t10 < 0)
     (some (1 : Int32))
     (lm_br (¬ t10 = 0)
      (some (0 : Int32))
      (lm_gi ((107 : Int32) + x1) 127
      (lm_gi ((107 : Int32) + x2) 127
      (lm_br ((σ 1 (((107 : Int32) + x2)).toNatClampNeg) ≤ (σ 1 (((107 : Int32) + x1)).toNatClampNeg))
       (some (0 : Int32))
       (some (1 : Int32))))))))))
   (lm_gi ((117 : Int32) + x1) 127
   (lm_gi ((117 : Int32) + x2) 127
   (lm_br ((σ 1 (((117 : Int32) + x2)).toNatClampNeg) ≤ (σ 1 (((117 : Int32) + x1)).toNatClampNeg))
    (some (0 : Int32))
    (some (1 : Int32)))))
theorem in7_X7_isAhead : ∀ w ∈ u_ws RX7 TX7 14, w ∈ wsX7_isAhead := by decide +kernel
theorem fl7_X7_isAhead : Cond.fieldLink RX7 7 "LoopMemoModel" "s" "[I" ∈ wsX7_isAhead := by decide +kernel
set_option maxRecDepth 100000 in
set_option maxHeartbeats 4000000 in
theorem m_X7_isAhead (D : va_G) (z zo : ClassId) (l : Launch) (a : Nat → Nat) (σ : Hp) (x1 x2 : Int32) (r : Int32)  (hF : F_X7_isAhead σ x1 x2 = some r) : lm_CR D z zo l yX7_isAhead wsX7_isAhead 0 0 [.ref (a 0), .int x1, .int x2] (mdW z a σ) (some (.int r)) := by
  refine lm_CR.of (by decide) rfl (Nat.le_of_ble_eq_true rfl) (own := RX7) rfl ?_
  intro p e s m_ args below meth c C hr hk
  show lm_St p l e ({ frames := 0, cells := 0, slots := 0, locals := 0 }) s m_ args below meth c D (fun _ => False) 4 0 0 (lm_EndR below (some (.int r)) args s) true (mdW z a σ) 0 [(0, .ref (a 0)), (1, .int x1), (2, .int x2)] []
  rw [F_X7_isAhead] at hF
  refine lm_aload_n C dX7_isAhead_0 rfl 0 rfl rfl ?_
  refine lm_getf C (T := TX7) (N := 14) (v := .ref (a 1)) in7_X7_isAhead 0 rfl rfl 0 (by decide) fl7_X7_isAhead rfl rfl dX7_isAhead_1 rfl ?_
  refine lm_iconst C (v := (1 : Int32)) dX7_isAhead_4 (by decide) rfl ?_
  refine lm_iald C (v := (σ 1 1)) 1 rfl (by unfold vp_in; decide) rfl dX7_isAhead_5 rfl ?_
  refine lm_iconst C (v := (2 : Int32)) dX7_isAhead_6 (by decide) rfl ?_
  refine lm_icmp_ne C (tgt := 37) dX7_isAhead_7 (by decide) rfl (fun c1 => ?_) (fun c1 => ?_)
  · have hF := lm_brt hF c1
    refine lm_aload_n C dX7_isAhead_37 rfl 0 rfl rfl ?_
    refine lm_getf C (T := TX7) (N := 14) (v := .ref (a 1)) in7_X7_isAhead 0 rfl rfl 0 (by decide) fl7_X7_isAhead rfl rfl dX7_isAhead_38 rfl ?_
    refine lm_iconst C (v := (1 : Int32)) dX7_isAhead_41 (by decide) rfl ?_
    refine lm_iald C (v := (σ 1 1)) 1 rfl (by unfold vp_in; decide) rfl dX7_isAhead_42 rfl ?_
    refine lm_iconst C (v := (1 : Int32)) dX7_isAhead_43 (by decide) rfl ?_
    refine lm_icmp_ne C (tgt := 69) dX7_isAhead_44 (by decide) rfl (fun c2 => ?_) (fun c2 => ?_)
    · have hF := lm_brt hF c2
      refine lm_iconst C (v := (0 : Int32)) dX7_isAhead_69 (by decide) rfl ?_
      refine lm_istore_n C (lv' := [(0, .ref (a 0)), (1, .int x1), (2, .int x2), (3, .int (0 : Int32))]) dX7_isAhead_70 rfl (by decide) rfl [1, 2, 3, 0] rfl rfl ?_
      refine lm_iload_n C dX7_isAhead_71 rfl 3 rfl rfl ?_
      refine lm_if_lt C (tgt := 100) dX7_isAhead_72 (by decide) rfl (fun c3 => ?_) (fun c3 => ?_)
      · exact absurd c3 (by decide)
      · refine lm_iload_n C dX7_isAhead_75 rfl 3 rfl rfl ?_
        refine lm_if_ne C (tgt := 104) dX7_isAhead_76 (by decide) rfl (fun c4 => ?_) (fun c4 => ?_)
        · exact absurd c4 (by decide)
        · refine lm_aload_n C dX7_isAhead_79 rfl 0 rfl rfl ?_
          refine lm_getf C (T := TX7) (N := 14) (v := .ref (a 1)) in7_X7_isAhead 0 rfl rfl 0 (by decide) fl7_X7_isAhead rfl rfl dX7_isAhead_80 rfl ?_
          refine lm_bipush C (v := (107 : Int32)) dX7_isAhead_83 (by decide) rfl ?_
          refine lm_iload_n C dX7_isAhead_85 rfl 1 rfl rfl ?_
          refine lm_iadd C dX7_isAhead_86 rfl rfl ?_
          obtain ⟨b5, hF⟩ := lm_gie hF
          refine lm_iald C (v := (σ 1 (((107 : Int32) + x1)).toNatClampNeg)) 1 rfl b5 rfl dX7_isAhead_87 rfl ?_
          refine lm_aload_n C dX7_isAhead_88 rfl 0 rfl rfl ?_
          refine lm_getf C (T := TX7) (N := 14) (v := .ref (a 1)) in7_X7_isAhead 0 rfl rfl 0 (by decide) fl7_X7_isAhead rfl rfl dX7_isAhead_89 rfl ?_
          refine lm_bipush C (v := (107 : Int32)) dX7_isAhead_92 (by decide) rfl ?_
          refine lm_iload_n C dX7_isAhead_94 rfl 2 rfl rfl ?_
          refine lm_iadd C dX7_isAhead_95 rfl rfl ?_
          obtain ⟨b6, hF⟩ := lm_gie hF
          refine lm_iald C (v := (σ 1 (((107 : Int32) + x2)).toNatClampNeg)) 1 rfl b6 rfl dX7_isAhead_96 rfl ?_
          refine lm_icmp_ge C (tgt := 104) dX7_isAhead_97 (by decide) rfl (fun c7 => ?_) (fun c7 => ?_)
          · have hF := lm_brt hF c7
            refine lm_iconst C (v := (0 : Int32)) dX7_isAhead_104 (by decide) rfl ?_
            cases hF
            exact lm_zretR C hr hk rfl rfl dX7_isAhead_105
          · have hF := lm_brf hF c7
            refine lm_iconst C (v := (1 : Int32)) dX7_isAhead_100 (by decide) rfl ?_
            refine lm_goto C (tgt := 105) dX7_isAhead_101 (by decide) ?_
            cases hF
            exact lm_zretR C hr hk rfl rfl dX7_isAhead_105
    · have hF := lm_brf hF c2
      refine lm_aload_n C dX7_isAhead_47 rfl 0 rfl rfl ?_
      refine lm_getf C (T := TX7) (N := 14) (v := .ref (a 1)) in7_X7_isAhead 0 rfl rfl 0 (by decide) fl7_X7_isAhead rfl rfl dX7_isAhead_48 rfl ?_
      refine lm_bipush C (v := (97 : Int32)) dX7_isAhead_51 (by decide) rfl ?_
      refine lm_iload_n C dX7_isAhead_53 rfl 1 rfl rfl ?_
      refine lm_iadd C dX7_isAhead_54 rfl rfl ?_
      obtain ⟨b8, hF⟩ := lm_gie hF
      refine lm_iald C (v := (σ 1 (((97 : Int32) + x1)).toNatClampNeg)) 1 rfl b8 rfl dX7_isAhead_55 rfl ?_
      refine lm_aload_n C dX7_isAhead_56 rfl 0 rfl rfl ?_
      refine lm_getf C (T := TX7) (N := 14) (v := .ref (a 1)) in7_X7_isAhead 0 rfl rfl 0 (by decide) fl7_X7_isAhead rfl rfl dX7_isAhead_57 rfl ?_
      refine lm_bipush C (v := (97 : Int32)) dX7_isAhead_60 (by decide) rfl ?_
      refine lm_iload_n C dX7_isAhead_62 rfl 2 rfl rfl ?_
      refine lm_iadd C dX7_isAhead_63 rfl rfl ?_
      obtain ⟨b9, hF⟩ := lm_gie hF
      refine lm_iald C (v := (σ 1 (((97 : Int32) + x2)).toNatClampNeg)) 1 rfl b9 rfl dX7_isAhead_64 rfl ?_
      refine lm_isub C dX7_isAhead_65 rfl rfl ?_
      refine lm_goto C (tgt := 70) dX7_isAhead_66 (by decide) ?_
      obtain ⟨t10, et10, hF⟩ := lm_lte hF
      rw [et10]
      refine lm_istore_n C (lv' := [(0, .ref (a 0)), (1, .int x1), (2, .int x2), (3, .int t10)]) dX7_isAhead_70 rfl (by decide) rfl [1, 2, 3, 0] rfl rfl ?_
      refine lm_iload_n C dX7_isAhead_71 rfl 3 rfl rfl ?_
      refine lm_if_lt C (tgt := 100) dX7_isAhead_72 (by decide) rfl (fun c11 => ?_) (fun c11 => ?_)
      · have hF := lm_brt hF c11
        refine lm_iconst C (v := (1 : Int32)) dX7_isAhead_100 (by decide) rfl ?_
        refine lm_goto C (tgt := 105) dX7_isAhead_101 (by decide) ?_
        cases hF
        exact lm_zretR C hr hk rfl rfl dX7_isAhead_105
      · have hF := lm_brf hF c11
        refine lm_iload_n C dX7_isAhead_75 rfl 3 rfl rfl ?_
        refine lm_if_ne C (tgt := 104) dX7_isAhead_76 (by decide) rfl (fun c12 => ?_) (fun c12 => ?_)
        · have hF := lm_brt hF c12
          refine lm_iconst C (v := (0 : Int32)) dX7_isAhead_104 (by decide) rfl ?_
          cases hF
          exact lm_zretR C hr hk rfl rfl dX7_isAhead_105
        · have hF := lm_brf hF c12
          refine lm_aload_n C dX7_isAhead_79 rfl 0 rfl rfl ?_
          refine lm_getf C (T := TX7) (N := 14) (v := .ref (a 1)) in7_X7_isAhead 0 rfl rfl 0 (by decide) fl7_X7_isAhead rfl rfl dX7_isAhead_80 rfl ?_
          refine lm_bipush C (v := (107 : Int32)) dX7_isAhead_83 (by decide) rfl ?_
          refine lm_iload_n C dX7_isAhead_85 rfl 1 rfl rfl ?_
          refine lm_iadd C dX7_isAhead_86 rfl rfl ?_
          obtain ⟨b13, hF⟩ := lm_gie hF
          refine lm_iald C (v := (σ 1 (((107 : Int32) + x1)).toNatClampNeg)) 1 rfl b13 rfl dX7_isAhead_87 rfl ?_
          refine lm_aload_n C dX7_isAhead_88 rfl 0 rfl rfl ?_
          refine lm_getf C (T := TX7) (N := 14) (v := .ref (a 1)) in7_X7_isAhead 0 rfl rfl 0 (by decide) fl7_X7_isAhead rfl rfl dX7_isAhead_89 rfl ?_
          refine lm_bipush C (v := (107 : Int32)) dX7_isAhead_92 (by decide) rfl ?_
          refine lm_iload_n C dX7_isAhead_94 rfl 2 rfl rfl ?_
          refine lm_iadd C dX7_isAhead_95 rfl rfl ?_
          obtain ⟨b14, hF⟩ := lm_gie hF
          refine lm_iald C (v := (σ 1 (((107 : Int32) + x2)).toNatClampNeg)) 1 rfl b14 rfl dX7_isAhead_96 rfl ?_
          refine lm_icmp_ge C (tgt := 104) dX7_isAhead_97 (by decide) rfl (fun c15 => ?_) (fun c15 => ?_)
          · have hF := lm_brt hF c15
            refine lm_iconst C (v := (0 : Int32)) dX7_isAhead_104 (by decide) rfl ?_
            cases hF
            exact lm_zretR C hr hk rfl rfl dX7_isAhead_105
          · have hF := lm_brf hF c15
            refine lm_iconst C (v := (1 : Int32)) dX7_isAhead_100 (by decide) rfl ?_
            refine lm_goto C (tgt := 105) dX7_isAhead_101 (by decide) ?_
            cases hF
            exact lm_zretR C hr hk rfl rfl dX7_isAhead_105
  · have hF := lm_brf hF c1
    refine lm_aload_n C dX7_isAhead_10 rfl 0 rfl rfl ?_
    refine lm_getf C (T := TX7) (N := 14) (v := .ref (a 1)) in7_X7_isAhead 0 rfl rfl 0 (by decide) fl7_X7_isAhead rfl rfl dX7_isAhead_11 rfl ?_
    refine lm_bipush C (v := (117 : Int32)) dX7_isAhead_14 (by decide) rfl ?_
    refine lm_iload_n C dX7_isAhead_16 rfl 1 rfl rfl ?_
    refine lm_iadd C dX7_isAhead_17 rfl rfl ?_
    obtain ⟨b16, hF⟩ := lm_gie hF
    refine lm_iald C (v := (σ 1 (((117 : Int32) + x1)).toNatClampNeg)) 1 rfl b16 rfl dX7_isAhead_18 rfl ?_
    refine lm_aload_n C dX7_isAhead_19 rfl 0 rfl rfl ?_
    refine lm_getf C (T := TX7) (N := 14) (v := .ref (a 1)) in7_X7_isAhead 0 rfl rfl 0 (by decide) fl7_X7_isAhead rfl rfl dX7_isAhead_20 rfl ?_
    refine lm_bipush C (v := (117 : Int32)) dX7_isAhead_23 (by decide) rfl ?_
    refine lm_iload_n C dX7_isAhead_25 rfl 2 rfl rfl ?_
    refine lm_iadd C dX7_isAhead_26 rfl rfl ?_
    obtain ⟨b17, hF⟩ := lm_gie hF
    refine lm_iald C (v := (σ 1 (((117 : Int32) + x2)).toNatClampNeg)) 1 rfl b17 rfl dX7_isAhead_27 rfl ?_
    refine lm_icmp_ge C (tgt := 35) dX7_isAhead_28 (by decide) rfl (fun c18 => ?_) (fun c18 => ?_)
    · have hF := lm_brt hF c18
      refine lm_iconst C (v := (0 : Int32)) dX7_isAhead_35 (by decide) rfl ?_
      cases hF
      exact lm_zretR C hr hk rfl rfl dX7_isAhead_36
    · have hF := lm_brf hF c18
      refine lm_iconst C (v := (1 : Int32)) dX7_isAhead_31 (by decide) rfl ?_
      refine lm_goto C (tgt := 36) dX7_isAhead_32 (by decide) ?_
      cases hF
      exact lm_zretR C hr hk rfl rfl dX7_isAhead_36
def F_X7_orderOf_L4 : Nat → Hp → Int32 → Int32 → Int32 → Option Int32
  | 0, _, _, _, _ => none
  | n + 1, σx, x1, x2, x3 =>
    lm_br ((10 : Int32) ≤ x3)
     (some x2)
     (lm_bd (F_X7_isKnown σx x3) fun r2 =>
     lm_br (r2 = 0)
      (F_X7_orderOf_L4 n σx x1 (x2 + (0 : Int32)) (x3 + (1 : Int32)))
      (lm_bd (F_X7_isAhead σx x3 x1) fun r4 =>
      lm_br (r4 = 0)
       (F_X7_orderOf_L4 n σx x1 (x2 + (0 : Int32)) (x3 + (1 : Int32)))
       (F_X7_orderOf_L4 n σx x1 (x2 + (1 : Int32)) (x3 + (1 : Int32)))))
def F_X7_orderOf (σ : Hp) (x1 : Int32) : Option Int32 :=
  F_X7_orderOf_L4 1000 σ x1 (0 : Int32) (0 : Int32)
set_option maxRecDepth 100000 in
set_option maxHeartbeats 4000000 in
theorem m_X7_orderOf (D : va_G) (z zo : ClassId) (l : Launch) (a : Nat → Nat) (σ : Hp) (x1 : Int32) (r : Int32)  (hF : F_X7_orderOf σ x1 = some r) : lm_CR D z zo l yX7_orderOf wsX7_orderOf 1 23 [.ref (a 0), .int x1] (mdW z a σ) (some (.int r)) := by
  refine lm_CR.of (by decide) rfl (Nat.le_of_ble_eq_true rfl) (own := RX7) rfl ?_
  intro p e s m_ args below meth c C hr hk
  have loop_4 : ∀ (n : Nat) (σx : Hp) (x1 : Int32) (x2 : Int32) (x3 : Int32), F_X7_orderOf_L4 n σx x1 x2 x3 = some r → lm_St p l e ({ frames := 1, cells := 0, slots := 0, locals := 23 }) s m_ args below meth c D (fun _ => False) 4 0 0 (lm_EndR below (some (.int r)) args s) true (mdW z a σx) 4 [(0, .ref (a 0)), (1, .int x1), (2, .int x2), (3, .int x3)] [] := by
    intro n
    induction n with
    | zero => intro σx x1 x2 x3 hF; cases (show (none : Option _) = some _ from hF)
    | succ n ih =>
      intro σx x1 x2 x3 hF
      rw [F_X7_orderOf_L4] at hF
      refine lm_iload_n C dX7_orderOf_4 rfl 3 rfl rfl ?_
      refine lm_bipush C (v := (10 : Int32)) dX7_orderOf_5 (by decide) rfl ?_
      refine lm_icmp_ge C (tgt := 41) dX7_orderOf_7 (by decide) rfl (fun c1 => ?_) (fun c1 => ?_)
      · have hF := lm_brt hF c1
        refine lm_iload_n C dX7_orderOf_41 rfl 2 rfl rfl ?_
        cases hF
        exact lm_iretR C hr hk rfl dX7_orderOf_42
      · have hF := lm_brf hF c1
        refine lm_iload_n C dX7_orderOf_10 rfl 2 rfl rfl ?_
        refine lm_aload_n C dX7_orderOf_11 rfl 0 rfl rfl ?_
        refine lm_iload_n C dX7_orderOf_12 rfl 3 rfl rfl ?_
        obtain ⟨r2, qr2, hF⟩ := lm_bde hF
        refine lm_callVR C (n := 1) (ci := 7) (m_X7_isKnown D z zo l a σx x3 r2 qr2) gX7_orderOf_X7_isKnown rfl (by decide +kernel) ⟨Nat.le_of_ble_eq_true rfl, Nat.le_of_ble_eq_true rfl⟩ ⟨Nat.le_of_ble_eq_true rfl, Nat.le_of_ble_eq_true rfl⟩ 0 rfl rfl (fun _ h => h) rfl rfl (Nat.le_of_ble_eq_true rfl) dX7_orderOf_13 (st' := [.int r2, .int x2]) rfl rfl ?_
        refine lm_if_eq C (tgt := 32) dX7_orderOf_16 (by decide) rfl (fun c3 => ?_) (fun c3 => ?_)
        · have hF := lm_brt hF c3
          refine lm_iconst C (v := (0 : Int32)) dX7_orderOf_32 (by decide) rfl ?_
          refine lm_iadd C dX7_orderOf_33 rfl rfl ?_
          refine lm_istore_n C (lv' := [(0, .ref (a 0)), (1, .int x1), (2, .int (x2 + (0 : Int32))), (3, .int x3)]) dX7_orderOf_34 rfl (by decide) rfl [1, 2, 0, 3] rfl rfl ?_
          refine lm_iinc C (lv' := [(0, .ref (a 0)), (1, .int x1), (2, .int (x2 + (0 : Int32))), (3, .int (x3 + (1 : Int32)))]) (x3 + (1 : Int32)) dX7_orderOf_35 3 rfl rfl (by decide) rfl [1, 2, 3, 0] rfl rfl ?_
          refine lm_goto C (tgt := 4) dX7_orderOf_38 (by decide) ?_
          exact ih σx x1 (x2 + (0 : Int32)) (x3 + (1 : Int32)) hF
        · have hF := lm_brf hF c3
          refine lm_aload_n C dX7_orderOf_19 rfl 0 rfl rfl ?_
          refine lm_iload_n C dX7_orderOf_20 rfl 3 rfl rfl ?_
          refine lm_iload_n C dX7_orderOf_21 rfl 1 rfl rfl ?_
          obtain ⟨r4, qr4, hF⟩ := lm_bde hF
          refine lm_callVR C (n := 2) (ci := 7) (m_X7_isAhead D z zo l a σx x3 x1 r4 qr4) gX7_orderOf_X7_isAhead rfl (by decide +kernel) ⟨Nat.le_of_ble_eq_true rfl, Nat.le_of_ble_eq_true rfl⟩ ⟨Nat.le_of_ble_eq_true rfl, Nat.le_of_ble_eq_true rfl⟩ 0 rfl rfl (fun _ h => h) rfl rfl (Nat.le_of_ble_eq_true rfl) dX7_orderOf_22 (st' := [.int r4, .int x2]) rfl rfl ?_
          refine lm_if_eq C (tgt := 32) dX7_orderOf_25 (by decide) rfl (fun c5 => ?_) (fun c5 => ?_)
          · have hF := lm_brt hF c5
            refine lm_iconst C (v := (0 : Int32)) dX7_orderOf_32 (by decide) rfl ?_
            refine lm_iadd C dX7_orderOf_33 rfl rfl ?_
            refine lm_istore_n C (lv' := [(0, .ref (a 0)), (1, .int x1), (2, .int (x2 + (0 : Int32))), (3, .int x3)]) dX7_orderOf_34 rfl (by decide) rfl [1, 2, 0, 3] rfl rfl ?_
            refine lm_iinc C (lv' := [(0, .ref (a 0)), (1, .int x1), (2, .int (x2 + (0 : Int32))), (3, .int (x3 + (1 : Int32)))]) (x3 + (1 : Int32)) dX7_orderOf_35 3 rfl rfl (by decide) rfl [1, 2, 3, 0] rfl rfl ?_
            refine lm_goto C (tgt := 4) dX7_orderOf_38 (by decide) ?_
            exact ih σx x1 (x2 + (0 : Int32)) (x3 + (1 : Int32)) hF
          · have hF := lm_brf hF c5
            refine lm_iconst C (v := (1 : Int32)) dX7_orderOf_28 (by decide) rfl ?_
            refine lm_goto C (tgt := 33) dX7_orderOf_29 (by decide) ?_
            refine lm_iadd C dX7_orderOf_33 rfl rfl ?_
            refine lm_istore_n C (lv' := [(0, .ref (a 0)), (1, .int x1), (2, .int (x2 + (1 : Int32))), (3, .int x3)]) dX7_orderOf_34 rfl (by decide) rfl [1, 2, 0, 3] rfl rfl ?_
            refine lm_iinc C (lv' := [(0, .ref (a 0)), (1, .int x1), (2, .int (x2 + (1 : Int32))), (3, .int (x3 + (1 : Int32)))]) (x3 + (1 : Int32)) dX7_orderOf_35 3 rfl rfl (by decide) rfl [1, 2, 3, 0] rfl rfl ?_
            refine lm_goto C (tgt := 4) dX7_orderOf_38 (by decide) ?_
            exact ih σx x1 (x2 + (1 : Int32)) (x3 + (1 : Int32)) hF
  show lm_St p l e ({ frames := 1, cells := 0, slots := 0, locals := 23 }) s m_ args below meth c D (fun _ => False) 4 0 0 (lm_EndR below (some (.int r)) args s) true (mdW z a σ) 0 [(0, .ref (a 0)), (1, .int x1)] []
  rw [F_X7_orderOf] at hF
  refine lm_iconst C (v := (0 : Int32)) dX7_orderOf_0 (by decide) rfl ?_
  refine lm_istore_n C (lv' := [(0, .ref (a 0)), (1, .int x1), (2, .int (0 : Int32))]) dX7_orderOf_1 rfl (by decide) rfl [1, 2, 0] rfl rfl ?_
  refine lm_iconst C (v := (0 : Int32)) dX7_orderOf_2 (by decide) rfl ?_
  refine lm_istore_n C (lv' := [(0, .ref (a 0)), (1, .int x1), (2, .int (0 : Int32)), (3, .int (0 : Int32))]) dX7_orderOf_3 rfl (by decide) rfl [1, 2, 3, 0] rfl rfl ?_
  exact loop_4 1000 σ x1 (0 : Int32) (0 : Int32) hF
def F_X7_first_L5 : Nat → Hp → Int32 → Int32 → Int32 → Option Int32
  | 0, _, _, _, _ => none
  | n + 1, σx, x1, x2, x3 =>
    lm_br ((10 : Int32) ≤ x3)
     (some x2)
     (lm_br (x3 = x1)
      (F_X7_first_L5 n σx x1 x2 (x3 + (1 : Int32)))
      (lm_bd (F_X7_isKnown σx x3) fun r3 =>
      lm_br (r3 = 0)
       (F_X7_first_L5 n σx x1 x2 (x3 + (1 : Int32)))
       (lm_br (x2 < 0)
        (F_X7_first_L5 n σx x1 x3 (x3 + (1 : Int32)))
        (lm_bd (F_X7_isAhead σx x3 x2) fun r6 =>
        lm_br (r6 = 0)
         (F_X7_first_L5 n σx x1 x2 (x3 + (1 : Int32)))
         (F_X7_first_L5 n σx x1 x3 (x3 + (1 : Int32)))))))
def F_X7_first (σ : Hp) (x1 : Int32) : Option Int32 :=
  F_X7_first_L5 1000 σ x1 (-4 : Int32) (0 : Int32)
set_option maxRecDepth 100000 in
set_option maxHeartbeats 4000000 in
theorem m_X7_first (D : va_G) (z zo : ClassId) (l : Launch) (a : Nat → Nat) (σ : Hp) (x1 : Int32) (r : Int32)  (hF : F_X7_first σ x1 = some r) : lm_CR D z zo l yX7_first wsX7_first 1 23 [.ref (a 0), .int x1] (mdW z a σ) (some (.int r)) := by
  refine lm_CR.of (by decide) rfl (Nat.le_of_ble_eq_true rfl) (own := RX7) rfl ?_
  intro p e s m_ args below meth c C hr hk
  have loop_5 : ∀ (n : Nat) (σx : Hp) (x1 : Int32) (x2 : Int32) (x3 : Int32), F_X7_first_L5 n σx x1 x2 x3 = some r → lm_St p l e ({ frames := 1, cells := 0, slots := 0, locals := 23 }) s m_ args below meth c D (fun _ => False) 4 0 0 (lm_EndR below (some (.int r)) args s) true (mdW z a σx) 5 [(0, .ref (a 0)), (1, .int x1), (2, .int x2), (3, .int x3)] [] := by
    intro n
    induction n with
    | zero => intro σx x1 x2 x3 hF; cases (show (none : Option _) = some _ from hF)
    | succ n ih =>
      intro σx x1 x2 x3 hF
      rw [F_X7_first_L5] at hF
      refine lm_iload_n C dX7_first_5 rfl 3 rfl rfl ?_
      refine lm_bipush C (v := (10 : Int32)) dX7_first_6 (by decide) rfl ?_
      refine lm_icmp_ge C (tgt := 49) dX7_first_8 (by decide) rfl (fun c1 => ?_) (fun c1 => ?_)
      · have hF := lm_brt hF c1
        refine lm_iload_n C dX7_first_49 rfl 2 rfl rfl ?_
        cases hF
        exact lm_iretR C hr hk rfl dX7_first_50
      · have hF := lm_brf hF c1
        refine lm_iload_n C dX7_first_11 rfl 3 rfl rfl ?_
        refine lm_iload_n C dX7_first_12 rfl 1 rfl rfl ?_
        refine lm_icmp_eq C (tgt := 41) dX7_first_13 (by decide) rfl (fun c2 => ?_) (fun c2 => ?_)
        · have hF := lm_brt hF c2
          refine lm_iload_n C dX7_first_41 rfl 2 rfl rfl ?_
          refine lm_istore_n C (lv' := [(0, .ref (a 0)), (1, .int x1), (2, .int x2), (3, .int x3)]) dX7_first_42 rfl (by decide) rfl [1, 2, 0, 3] rfl rfl ?_
          refine lm_iinc C (lv' := [(0, .ref (a 0)), (1, .int x1), (2, .int x2), (3, .int (x3 + (1 : Int32)))]) (x3 + (1 : Int32)) dX7_first_43 3 rfl rfl (by decide) rfl [1, 2, 3, 0] rfl rfl ?_
          refine lm_goto C (tgt := 5) dX7_first_46 (by decide) ?_
          exact ih σx x1 x2 (x3 + (1 : Int32)) hF
        · have hF := lm_brf hF c2
          refine lm_aload_n C dX7_first_16 rfl 0 rfl rfl ?_
          refine lm_iload_n C dX7_first_17 rfl 3 rfl rfl ?_
          obtain ⟨r3, qr3, hF⟩ := lm_bde hF
          refine lm_callVR C (n := 1) (ci := 7) (m_X7_isKnown D z zo l a σx x3 r3 qr3) gX7_first_X7_isKnown rfl (by decide +kernel) ⟨Nat.le_of_ble_eq_true rfl, Nat.le_of_ble_eq_true rfl⟩ ⟨Nat.le_of_ble_eq_true rfl, Nat.le_of_ble_eq_true rfl⟩ 0 rfl rfl (fun _ h => h) rfl rfl (Nat.le_of_ble_eq_true rfl) dX7_first_18 (st' := [.int r3]) rfl rfl ?_
          refine lm_if_eq C (tgt := 41) dX7_first_21 (by decide) rfl (fun c4 => ?_) (fun c4 => ?_)
          · have hF := lm_brt hF c4
            refine lm_iload_n C dX7_first_41 rfl 2 rfl rfl ?_
            refine lm_istore_n C (lv' := [(0, .ref (a 0)), (1, .int x1), (2, .int x2), (3, .int x3)]) dX7_first_42 rfl (by decide) rfl [1, 2, 0, 3] rfl rfl ?_
            refine lm_iinc C (lv' := [(0, .ref (a 0)), (1, .int x1), (2, .int x2), (3, .int (x3 + (1 : Int32)))]) (x3 + (1 : Int32)) dX7_first_43 3 rfl rfl (by decide) rfl [1, 2, 3, 0] rfl rfl ?_
            refine lm_goto C (tgt := 5) dX7_first_46 (by decide) ?_
            exact ih σx x1 x2 (x3 + (1 : Int32)) hF
          · have hF := lm_brf hF c4
            refine lm_iload_n C dX7_first_24 rfl 2 rfl rfl ?_
            refine lm_if_lt C (tgt := 37) dX7_first_25 (by decide) rfl (fun c5 => ?_) (fun c5 => ?_)
            · have hF := lm_brt hF c5
              refine lm_iload_n C dX7_first_37 rfl 3 rfl rfl ?_
              refine lm_goto C (tgt := 42) dX7_first_38 (by decide) ?_
              refine lm_istore_n C (lv' := [(0, .ref (a 0)), (1, .int x1), (2, .int x3), (3, .int x3)]) dX7_first_42 rfl (by decide) rfl [1, 2, 0, 3] rfl rfl ?_
              refine lm_iinc C (lv' := [(0, .ref (a 0)), (1, .int x1), (2, .int x3), (3, .int (x3 + (1 : Int32)))]) (x3 + (1 : Int32)) dX7_first_43 3 rfl rfl (by decide) rfl [1, 2, 3, 0] rfl rfl ?_
              refine lm_goto C (tgt := 5) dX7_first_46 (by decide) ?_
              exact ih σx x1 x3 (x3 + (1 : Int32)) hF
            · have hF := lm_brf hF c5
              refine lm_aload_n C dX7_first_28 rfl 0 rfl rfl ?_
              refine lm_iload_n C dX7_first_29 rfl 3 rfl rfl ?_
              refine lm_iload_n C dX7_first_30 rfl 2 rfl rfl ?_
              obtain ⟨r6, qr6, hF⟩ := lm_bde hF
              refine lm_callVR C (n := 2) (ci := 7) (m_X7_isAhead D z zo l a σx x3 x2 r6 qr6) gX7_first_X7_isAhead rfl (by decide +kernel) ⟨Nat.le_of_ble_eq_true rfl, Nat.le_of_ble_eq_true rfl⟩ ⟨Nat.le_of_ble_eq_true rfl, Nat.le_of_ble_eq_true rfl⟩ 0 rfl rfl (fun _ h => h) rfl rfl (Nat.le_of_ble_eq_true rfl) dX7_first_31 (st' := [.int r6]) rfl rfl ?_
              refine lm_if_eq C (tgt := 41) dX7_first_34 (by decide) rfl (fun c7 => ?_) (fun c7 => ?_)
              · have hF := lm_brt hF c7
                refine lm_iload_n C dX7_first_41 rfl 2 rfl rfl ?_
                refine lm_istore_n C (lv' := [(0, .ref (a 0)), (1, .int x1), (2, .int x2), (3, .int x3)]) dX7_first_42 rfl (by decide) rfl [1, 2, 0, 3] rfl rfl ?_
                refine lm_iinc C (lv' := [(0, .ref (a 0)), (1, .int x1), (2, .int x2), (3, .int (x3 + (1 : Int32)))]) (x3 + (1 : Int32)) dX7_first_43 3 rfl rfl (by decide) rfl [1, 2, 3, 0] rfl rfl ?_
                refine lm_goto C (tgt := 5) dX7_first_46 (by decide) ?_
                exact ih σx x1 x2 (x3 + (1 : Int32)) hF
              · have hF := lm_brf hF c7
                refine lm_iload_n C dX7_first_37 rfl 3 rfl rfl ?_
                refine lm_goto C (tgt := 42) dX7_first_38 (by decide) ?_
                refine lm_istore_n C (lv' := [(0, .ref (a 0)), (1, .int x1), (2, .int x3), (3, .int x3)]) dX7_first_42 rfl (by decide) rfl [1, 2, 0, 3] rfl rfl ?_
                refine lm_iinc C (lv' := [(0, .ref (a 0)), (1, .int x1), (2, .int x3), (3, .int (x3 + (1 : Int32)))]) (x3 + (1 : Int32)) dX7_first_43 3 rfl rfl (by decide) rfl [1, 2, 3, 0] rfl rfl ?_
                refine lm_goto C (tgt := 5) dX7_first_46 (by decide) ?_
                exact ih σx x1 x3 (x3 + (1 : Int32)) hF
  show lm_St p l e ({ frames := 1, cells := 0, slots := 0, locals := 23 }) s m_ args below meth c D (fun _ => False) 4 0 0 (lm_EndR below (some (.int r)) args s) true (mdW z a σ) 0 [(0, .ref (a 0)), (1, .int x1)] []
  rw [F_X7_first] at hF
  refine lm_bipush C (v := (-4 : Int32)) dX7_first_0 (by decide) rfl ?_
  refine lm_istore_n C (lv' := [(0, .ref (a 0)), (1, .int x1), (2, .int (-4 : Int32))]) dX7_first_2 rfl (by decide) rfl [1, 2, 0] rfl rfl ?_
  refine lm_iconst C (v := (0 : Int32)) dX7_first_3 (by decide) rfl ?_
  refine lm_istore_n C (lv' := [(0, .ref (a 0)), (1, .int x1), (2, .int (-4 : Int32)), (3, .int (0 : Int32))]) dX7_first_4 rfl (by decide) rfl [1, 2, 3, 0] rfl rfl ?_
  exact loop_5 1000 σ x1 (-4 : Int32) (0 : Int32) hF
def F_X7_makesRoom_L8 : Nat → Hp → Int32 → Int32 → Int32 → Option (Int32 × (Hp))
  | 0, _, _, _, _ => none
  | n + 1, σx, x1, x2, x3 =>
    lm_br (x3 < 0)
     (lm_lt (lm_u σx 1 12 ((σx 1 12) + x2)) fun σ3 =>
     some (x2, σ3))
     (lm_bd (F_X7_weights σx) fun r4 =>
     lm_br (r4 ≤ (σx 1 0))
      (lm_lt (lm_u σx 1 12 ((σx 1 12) + x2)) fun σ6 =>
      some (x2, σ6))
      (lm_gi ((97 : Int32) + x3) 127
      (lm_lt (lm_u σx 1 ((((97 : Int32) + x3)).toNatClampNeg) (0 : Int32)) fun σ7 =>
      lm_bd (F_X7_first σ7 x1) fun r8 =>
      F_X7_makesRoom_L8 n σ7 x1 (x2 + (1 : Int32)) r8)))
def F_X7_makesRoom (σ : Hp) (x1 : Int32) : Option (Int32 × (Hp)) :=
  lm_bd (F_X7_first σ x1) fun r1 =>
  F_X7_makesRoom_L8 1000 σ x1 (0 : Int32) r1
theorem in7_X7_makesRoom : ∀ w ∈ u_ws RX7 TX7 14, w ∈ wsX7_makesRoom := by decide +kernel
theorem fl7_X7_makesRoom : Cond.fieldLink RX7 7 "LoopMemoModel" "s" "[I" ∈ wsX7_makesRoom := by decide +kernel
set_option maxRecDepth 100000 in
set_option maxHeartbeats 4000000 in
theorem m_X7_makesRoom (D : va_G) (z zo : ClassId) (l : Launch) (a : Nat → Nat) (σ : Hp) (x1 : Int32) (r : Int32) (σ' : Hp) (hF : F_X7_makesRoom σ x1 = some (r, σ')) : lm_C D z zo l yX7_makesRoom wsX7_makesRoom 5 110 [.ref (a 0), .int x1] (mdW z a σ) (some (.int r)) (mdW z a σ') := by
  refine lm_C.of (by decide) rfl (Nat.le_of_ble_eq_true rfl) (own := RX7) rfl ?_
  intro p e s m_ args below meth c C hr hk hA
  have loop_8 : ∀ (n : Nat) (σx : Hp) (x1 : Int32) (x2 : Int32) (x3 : Int32), F_X7_makesRoom_L8 n σx x1 x2 x3 = some (r, σ') → lm_St p l e ({ frames := 5, cells := 0, slots := 0, locals := 110 }) s m_ args below meth c D (va_A (mdW z a σ) s.heap.size) 4 0 0 (lm_End below D (some (.int r)) (mdW z a σ) (mdW z a σ') args s) false (mdW z a σx) 8 [(0, .ref (a 0)), (1, .int x1), (2, .int x2), (3, .int x3)] [] := by
    intro n
    induction n with
    | zero => intro σx x1 x2 x3 hF; cases (show (none : Option _) = some _ from hF)
    | succ n ih =>
      intro σx x1 x2 x3 hF
      rw [F_X7_makesRoom_L8] at hF
      refine lm_iload_n C dX7_makesRoom_8 rfl 3 rfl rfl ?_
      refine lm_if_lt C (tgt := 47) dX7_makesRoom_9 (by decide) rfl (fun c2 => ?_) (fun c2 => ?_)
      · have hF := lm_brt hF c2
        refine lm_aload_n C dX7_makesRoom_47 rfl 0 rfl rfl ?_
        refine lm_getf C (T := TX7) (N := 14) (v := .ref (a 1)) in7_X7_makesRoom 0 rfl rfl 0 (by decide) fl7_X7_makesRoom rfl rfl dX7_makesRoom_48 rfl ?_
        refine lm_bipush C (v := (12 : Int32)) dX7_makesRoom_51 (by decide) rfl ?_
        refine lm_dup2 C dX7_makesRoom_53 rfl rfl rfl ?_
        refine lm_iald C (v := (σx 1 12)) 1 rfl (by unfold vp_in; decide) rfl dX7_makesRoom_54 rfl ?_
        refine lm_iload_n C dX7_makesRoom_55 rfl 2 rfl rfl ?_
        refine lm_iadd C dX7_makesRoom_56 rfl rfl ?_
        obtain ⟨σ3, eσ3, hF⟩ := lm_lte hF
        refine lm_iast C (w' := (mdW z a σ3)) 1 rfl (by unfold vp_in; decide) dX7_makesRoom_57 (by rw [← eσ3]; rfl) rfl ?_
        refine lm_iload_n C dX7_makesRoom_58 rfl 2 rfl rfl ?_
        cases hF
        exact lm_iret C hr hk rfl rfl dX7_makesRoom_59
      · have hF := lm_brf hF c2
        refine lm_aload_n C dX7_makesRoom_12 rfl 0 rfl rfl ?_
        obtain ⟨r4, qr4, hF⟩ := lm_bde hF
        refine lm_callVR C (n := 0) (ci := 7) (m_X7_weights D z zo l a σx  r4 qr4) gX7_makesRoom_X7_weights rfl (by decide +kernel) ⟨Nat.le_of_ble_eq_true rfl, Nat.le_of_ble_eq_true rfl⟩ ⟨Nat.le_of_ble_eq_true rfl, Nat.le_of_ble_eq_true rfl⟩ 0 rfl rfl (fun _ h => h) rfl rfl (Nat.le_of_ble_eq_true rfl) dX7_makesRoom_13 (st' := [.int r4]) rfl rfl ?_
        refine lm_aload_n C dX7_makesRoom_16 rfl 0 rfl rfl ?_
        refine lm_getf C (T := TX7) (N := 14) (v := .ref (a 1)) in7_X7_makesRoom 0 rfl rfl 0 (by decide) fl7_X7_makesRoom rfl rfl dX7_makesRoom_17 rfl ?_
        refine lm_iconst C (v := (0 : Int32)) dX7_makesRoom_20 (by decide) rfl ?_
        refine lm_iald C (v := (σx 1 0)) 1 rfl (by unfold vp_in; decide) rfl dX7_makesRoom_21 rfl ?_
        refine lm_icmp_le C (tgt := 47) dX7_makesRoom_22 (by decide) rfl (fun c5 => ?_) (fun c5 => ?_)
        · have hF := lm_brt hF c5
          refine lm_aload_n C dX7_makesRoom_47 rfl 0 rfl rfl ?_
          refine lm_getf C (T := TX7) (N := 14) (v := .ref (a 1)) in7_X7_makesRoom 0 rfl rfl 0 (by decide) fl7_X7_makesRoom rfl rfl dX7_makesRoom_48 rfl ?_
          refine lm_bipush C (v := (12 : Int32)) dX7_makesRoom_51 (by decide) rfl ?_
          refine lm_dup2 C dX7_makesRoom_53 rfl rfl rfl ?_
          refine lm_iald C (v := (σx 1 12)) 1 rfl (by unfold vp_in; decide) rfl dX7_makesRoom_54 rfl ?_
          refine lm_iload_n C dX7_makesRoom_55 rfl 2 rfl rfl ?_
          refine lm_iadd C dX7_makesRoom_56 rfl rfl ?_
          obtain ⟨σ6, eσ6, hF⟩ := lm_lte hF
          refine lm_iast C (w' := (mdW z a σ6)) 1 rfl (by unfold vp_in; decide) dX7_makesRoom_57 (by rw [← eσ6]; rfl) rfl ?_
          refine lm_iload_n C dX7_makesRoom_58 rfl 2 rfl rfl ?_
          cases hF
          exact lm_iret C hr hk rfl rfl dX7_makesRoom_59
        · have hF := lm_brf hF c5
          refine lm_aload_n C dX7_makesRoom_25 rfl 0 rfl rfl ?_
          refine lm_getf C (T := TX7) (N := 14) (v := .ref (a 1)) in7_X7_makesRoom 0 rfl rfl 0 (by decide) fl7_X7_makesRoom rfl rfl dX7_makesRoom_26 rfl ?_
          refine lm_bipush C (v := (97 : Int32)) dX7_makesRoom_29 (by decide) rfl ?_
          refine lm_iload_n C dX7_makesRoom_31 rfl 3 rfl rfl ?_
          refine lm_iadd C dX7_makesRoom_32 rfl rfl ?_
          refine lm_iconst C (v := (0 : Int32)) dX7_makesRoom_33 (by decide) rfl ?_
          obtain ⟨b9, hF⟩ := lm_gie hF
          obtain ⟨σ7, eσ7, hF⟩ := lm_lte hF
          refine lm_iast C (w' := (mdW z a σ7)) 1 rfl b9 dX7_makesRoom_34 (by rw [← eσ7]; rfl) rfl ?_
          refine lm_iinc C (lv' := [(0, .ref (a 0)), (1, .int x1), (2, .int (x2 + (1 : Int32))), (3, .int x3)]) (x2 + (1 : Int32)) dX7_makesRoom_35 2 rfl rfl (by decide) rfl [1, 2, 0, 3] rfl rfl ?_
          refine lm_aload_n C dX7_makesRoom_38 rfl 0 rfl rfl ?_
          refine lm_iload_n C dX7_makesRoom_39 rfl 1 rfl rfl ?_
          obtain ⟨r8, qr8, hF⟩ := lm_bde hF
          refine lm_callVR C (n := 1) (ci := 7) (m_X7_first D z zo l a σ7 x1 r8 qr8) gX7_makesRoom_X7_first rfl (by decide +kernel) ⟨Nat.le_of_ble_eq_true rfl, Nat.le_of_ble_eq_true rfl⟩ ⟨Nat.le_of_ble_eq_true rfl, Nat.le_of_ble_eq_true rfl⟩ 0 rfl rfl (fun _ h => h) rfl rfl (Nat.le_of_ble_eq_true rfl) dX7_makesRoom_40 (st' := [.int r8]) rfl rfl ?_
          refine lm_istore_n C (lv' := [(0, .ref (a 0)), (1, .int x1), (2, .int (x2 + (1 : Int32))), (3, .int r8)]) dX7_makesRoom_43 rfl (by decide) rfl [1, 2, 3, 0] rfl rfl ?_
          refine lm_goto C (tgt := 8) dX7_makesRoom_44 (by decide) ?_
          exact ih σ7 x1 (x2 + (1 : Int32)) r8 hF
  show lm_St p l e ({ frames := 5, cells := 0, slots := 0, locals := 110 }) s m_ args below meth c D (va_A (mdW z a σ) s.heap.size) 4 0 0 (lm_End below D (some (.int r)) (mdW z a σ) (mdW z a σ') args s) false (mdW z a σ) 0 [(0, .ref (a 0)), (1, .int x1)] []
  rw [F_X7_makesRoom] at hF
  refine lm_iconst C (v := (0 : Int32)) dX7_makesRoom_0 (by decide) rfl ?_
  refine lm_istore_n C (lv' := [(0, .ref (a 0)), (1, .int x1), (2, .int (0 : Int32))]) dX7_makesRoom_1 rfl (by decide) rfl [1, 2, 0] rfl rfl ?_
  refine lm_aload_n C dX7_makesRoom_2 rfl 0 rfl rfl ?_
  refine lm_iload_n C dX7_makesRoom_3 rfl 1 rfl rfl ?_
  obtain ⟨r1, qr1, hF⟩ := lm_bde hF
  refine lm_callVR C (n := 1) (ci := 7) (m_X7_first D z zo l a σ x1 r1 qr1) gX7_makesRoom_X7_first rfl (by decide +kernel) ⟨Nat.le_of_ble_eq_true rfl, Nat.le_of_ble_eq_true rfl⟩ ⟨Nat.le_of_ble_eq_true rfl, Nat.le_of_ble_eq_true rfl⟩ 0 rfl rfl (fun _ h => h) rfl rfl (Nat.le_of_ble_eq_true rfl) dX7_makesRoom_4 (st' := [.int r1]) rfl rfl ?_
  refine lm_istore_n C (lv' := [(0, .ref (a 0)), (1, .int x1), (2, .int (0 : Int32)), (3, .int r1)]) dX7_makesRoom_7 rfl (by decide) rfl [1, 2, 3, 0] rfl rfl ?_
  exact loop_8 1000 σ x1 (0 : Int32) r1 hF
def F_X7_throwsOut (σ : Hp) (x1 : Int32) : Option (Int32 × (Hp)) :=
  lm_bd (F_X7_isKnown σ x1) fun r1 =>
  lm_br (¬ r1 = 0)
   (lm_gi ((97 : Int32) + x1) 127
   (lm_lt (lm_u σ 1 ((((97 : Int32) + x1)).toNatClampNeg) (0 : Int32)) fun σ3 =>
   lm_lt (lm_u σ3 1 13 ((σ3 1 13) + (1 : Int32))) fun σ4 =>
   some ((1 : Int32), σ4)))
   (some ((0 : Int32), σ))
theorem in7_X7_throwsOut : ∀ w ∈ u_ws RX7 TX7 14, w ∈ wsX7_throwsOut := by decide +kernel
theorem fl7_X7_throwsOut : Cond.fieldLink RX7 7 "LoopMemoModel" "s" "[I" ∈ wsX7_throwsOut := by decide +kernel
set_option maxRecDepth 100000 in
set_option maxHeartbeats 4000000 in
theorem m_X7_throwsOut (D : va_G) (z zo : ClassId) (l : Launch) (a : Nat → Nat) (σ : Hp) (x1 : Int32) (r : Int32) (σ' : Hp) (hF : F_X7_throwsOut σ x1 = some (r, σ')) : lm_C D z zo l yX7_throwsOut wsX7_throwsOut 1 21 [.ref (a 0), .int x1] (mdW z a σ) (some (.int r)) (mdW z a σ') := by
  refine lm_C.of (by decide) rfl (Nat.le_of_ble_eq_true rfl) (own := RX7) rfl ?_
  intro p e s m_ args below meth c C hr hk hA
  show lm_St p l e ({ frames := 1, cells := 0, slots := 0, locals := 21 }) s m_ args below meth c D (va_A (mdW z a σ) s.heap.size) 2 0 0 (lm_End below D (some (.int r)) (mdW z a σ) (mdW z a σ') args s) false (mdW z a σ) 0 [(0, .ref (a 0)), (1, .int x1)] []
  rw [F_X7_throwsOut] at hF
  refine lm_aload_n C dX7_throwsOut_0 rfl 0 rfl rfl ?_
  refine lm_iload_n C dX7_throwsOut_1 rfl 1 rfl rfl ?_
  obtain ⟨r1, qr1, hF⟩ := lm_bde hF
  refine lm_callVR C (n := 1) (ci := 7) (m_X7_isKnown D z zo l a σ x1 r1 qr1) gX7_throwsOut_X7_isKnown rfl (by decide +kernel) ⟨Nat.le_of_ble_eq_true rfl, Nat.le_of_ble_eq_true rfl⟩ ⟨Nat.le_of_ble_eq_true rfl, Nat.le_of_ble_eq_true rfl⟩ 0 rfl rfl (fun _ h => h) rfl rfl (Nat.le_of_ble_eq_true rfl) dX7_throwsOut_2 (st' := [.int r1]) rfl rfl ?_
  refine lm_if_ne C (tgt := 10) dX7_throwsOut_5 (by decide) rfl (fun c2 => ?_) (fun c2 => ?_)
  · have hF := lm_brt hF c2
    refine lm_aload_n C dX7_throwsOut_10 rfl 0 rfl rfl ?_
    refine lm_getf C (T := TX7) (N := 14) (v := .ref (a 1)) in7_X7_throwsOut 0 rfl rfl 0 (by decide) fl7_X7_throwsOut rfl rfl dX7_throwsOut_11 rfl ?_
    refine lm_bipush C (v := (97 : Int32)) dX7_throwsOut_14 (by decide) rfl ?_
    refine lm_iload_n C dX7_throwsOut_16 rfl 1 rfl rfl ?_
    refine lm_iadd C dX7_throwsOut_17 rfl rfl ?_
    refine lm_iconst C (v := (0 : Int32)) dX7_throwsOut_18 (by decide) rfl ?_
    obtain ⟨b5, hF⟩ := lm_gie hF
    obtain ⟨σ3, eσ3, hF⟩ := lm_lte hF
    refine lm_iast C (w' := (mdW z a σ3)) 1 rfl b5 dX7_throwsOut_19 (by rw [← eσ3]; rfl) rfl ?_
    refine lm_aload_n C dX7_throwsOut_20 rfl 0 rfl rfl ?_
    refine lm_getf C (T := TX7) (N := 14) (v := .ref (a 1)) in7_X7_throwsOut 0 rfl rfl 0 (by decide) fl7_X7_throwsOut rfl rfl dX7_throwsOut_21 rfl ?_
    refine lm_bipush C (v := (13 : Int32)) dX7_throwsOut_24 (by decide) rfl ?_
    refine lm_dup2 C dX7_throwsOut_26 rfl rfl rfl ?_
    refine lm_iald C (v := (σ3 1 13)) 1 rfl (by unfold vp_in; decide) rfl dX7_throwsOut_27 rfl ?_
    refine lm_iconst C (v := (1 : Int32)) dX7_throwsOut_28 (by decide) rfl ?_
    refine lm_iadd C dX7_throwsOut_29 rfl rfl ?_
    obtain ⟨σ4, eσ4, hF⟩ := lm_lte hF
    refine lm_iast C (w' := (mdW z a σ4)) 1 rfl (by unfold vp_in; decide) dX7_throwsOut_30 (by rw [← eσ4]; rfl) rfl ?_
    refine lm_iconst C (v := (1 : Int32)) dX7_throwsOut_31 (by decide) rfl ?_
    cases hF
    exact lm_iret C hr hk rfl rfl dX7_throwsOut_32
  · have hF := lm_brf hF c2
    refine lm_iconst C (v := (0 : Int32)) dX7_throwsOut_8 (by decide) rfl ?_
    cases hF
    exact lm_iret C hr hk rfl rfl dX7_throwsOut_9
def F_X7_throwsAll_L4 : Nat → Hp → Int32 → Int32 → Option (Int32 × (Hp))
  | 0, _, _, _ => none
  | n + 1, σx, x1, x2 =>
    lm_br ((10 : Int32) ≤ x2)
     (some (x1, σx))
     (lm_b2 (F_X7_throwsOut σx x2) fun r3 σ2 =>
     F_X7_throwsAll_L4 n σ2 (x1 + r3) (x2 + (1 : Int32)))
def F_X7_throwsAll (σ : Hp)  : Option (Int32 × (Hp)) :=
  F_X7_throwsAll_L4 1000 σ (0 : Int32) (0 : Int32)
set_option maxRecDepth 100000 in
set_option maxHeartbeats 4000000 in
theorem m_X7_throwsAll (D : va_G) (z zo : ClassId) (l : Launch) (a : Nat → Nat) (σ : Hp)  (r : Int32) (σ' : Hp) (hF : F_X7_throwsAll σ  = some (r, σ')) : lm_C D z zo l yX7_throwsAll wsX7_throwsAll 2 42 [.ref (a 0)] (mdW z a σ) (some (.int r)) (mdW z a σ') := by
  refine lm_C.of (by decide) rfl (Nat.le_of_ble_eq_true rfl) (own := RX7) rfl ?_
  intro p e s m_ args below meth c C hr hk hA
  have loop_4 : ∀ (n : Nat) (σx : Hp) (x1 : Int32) (x2 : Int32), F_X7_throwsAll_L4 n σx x1 x2 = some (r, σ') → lm_St p l e ({ frames := 2, cells := 0, slots := 0, locals := 42 }) s m_ args below meth c D (va_A (mdW z a σ) s.heap.size) 3 0 0 (lm_End below D (some (.int r)) (mdW z a σ) (mdW z a σ') args s) false (mdW z a σx) 4 [(0, .ref (a 0)), (1, .int x1), (2, .int x2)] [] := by
    intro n
    induction n with
    | zero => intro σx x1 x2 hF; cases (show (none : Option _) = some _ from hF)
    | succ n ih =>
      intro σx x1 x2 hF
      rw [F_X7_throwsAll_L4] at hF
      refine lm_iload_n C dX7_throwsAll_4 rfl 2 rfl rfl ?_
      refine lm_bipush C (v := (10 : Int32)) dX7_throwsAll_5 (by decide) rfl ?_
      refine lm_icmp_ge C (tgt := 24) dX7_throwsAll_7 (by decide) rfl (fun c1 => ?_) (fun c1 => ?_)
      · have hF := lm_brt hF c1
        refine lm_iload_n C dX7_throwsAll_24 rfl 1 rfl rfl ?_
        cases hF
        exact lm_iret C hr hk rfl rfl dX7_throwsAll_25
      · have hF := lm_brf hF c1
        refine lm_iload_n C dX7_throwsAll_10 rfl 1 rfl rfl ?_
        refine lm_aload_n C dX7_throwsAll_11 rfl 0 rfl rfl ?_
        refine lm_iload_n C dX7_throwsAll_12 rfl 2 rfl rfl ?_
        obtain ⟨r3, σ2, qσ2, hF⟩ := lm_b2e hF
        refine lm_callV C (n := 1) (ci := 7) (w' := (mdW z a σ2)) hA (m_X7_throwsOut D z zo l a σx x2 r3 σ2 qσ2) gX7_throwsAll_X7_throwsOut rfl (by decide +kernel) ⟨Nat.le_of_ble_eq_true rfl, Nat.le_of_ble_eq_true rfl⟩ ⟨Nat.le_of_ble_eq_true rfl, Nat.le_of_ble_eq_true rfl⟩ 0 rfl rfl lm_pr lm_pr' rfl rfl (Nat.le_of_ble_eq_true rfl) dX7_throwsAll_13 (st' := [.int r3, .int x1]) rfl rfl ?_
        refine lm_iadd C dX7_throwsAll_16 rfl rfl ?_
        refine lm_istore_n C (lv' := [(0, .ref (a 0)), (1, .int (x1 + r3)), (2, .int x2)]) dX7_throwsAll_17 rfl (by decide) rfl [1, 0, 2] rfl rfl ?_
        refine lm_iinc C (lv' := [(0, .ref (a 0)), (1, .int (x1 + r3)), (2, .int (x2 + (1 : Int32)))]) (x2 + (1 : Int32)) dX7_throwsAll_18 2 rfl rfl (by decide) rfl [1, 2, 0] rfl rfl ?_
        refine lm_goto C (tgt := 4) dX7_throwsAll_21 (by decide) ?_
        exact ih σ2 (x1 + r3) (x2 + (1 : Int32)) hF
  show lm_St p l e ({ frames := 2, cells := 0, slots := 0, locals := 42 }) s m_ args below meth c D (va_A (mdW z a σ) s.heap.size) 3 0 0 (lm_End below D (some (.int r)) (mdW z a σ) (mdW z a σ') args s) false (mdW z a σ) 0 [(0, .ref (a 0))] []
  rw [F_X7_throwsAll] at hF
  refine lm_iconst C (v := (0 : Int32)) dX7_throwsAll_0 (by decide) rfl ?_
  refine lm_istore_n C (lv' := [(0, .ref (a 0)), (1, .int (0 : Int32))]) dX7_throwsAll_1 rfl (by decide) rfl [1, 0] rfl rfl ?_
  refine lm_iconst C (v := (0 : Int32)) dX7_throwsAll_2 (by decide) rfl ?_
  refine lm_istore_n C (lv' := [(0, .ref (a 0)), (1, .int (0 : Int32)), (2, .int (0 : Int32))]) dX7_throwsAll_3 rfl (by decide) rfl [1, 2, 0] rfl rfl ?_
  exact loop_4 1000 σ (0 : Int32) (0 : Int32) hF
def F_X7_keeps_L20 : Nat → Hp → Int32 → Int32 → Int32 → Int32 → Option (Hp)
  | 0, _, _, _, _, _ => none
  | n + 1, σx, x1, x2, x3, x4 =>
    lm_br ((10 : Int32) ≤ x4)
     (some σx)
     (lm_br (x3 < 0)
      (some σx)
      (lm_br (x4 = x1)
       (lm_br (¬ (σx 1 2) = (2 : Int32))
        (lm_lt (lm_u σx 1 15 ((σx 1 15) + (0 : Int32))) fun σ6 =>
        lm_br (¬ (σ6 1 2) = 0)
         (F_X7_keeps_L20 n σ6 x1 x2 (x3 + (0 : Int32)) (x4 + (1 : Int32)))
         (lm_b2 (F_X7_throwsOut σ6 x4) fun r9 σ8 =>
         F_X7_keeps_L20 n σ8 x1 x2 (x3 + r9) (x4 + (1 : Int32))))
        (lm_bd (F_X7_isKnown σx x4) fun r10 =>
        lm_br (r10 = 0)
         (lm_lt (lm_u σx 1 15 ((σx 1 15) + (0 : Int32))) fun σ12 =>
         lm_br (¬ (σ12 1 2) = 0)
          (F_X7_keeps_L20 n σ12 x1 x2 (x3 + (0 : Int32)) (x4 + (1 : Int32)))
          (lm_b2 (F_X7_throwsOut σ12 x4) fun r15 σ14 =>
          F_X7_keeps_L20 n σ14 x1 x2 (x3 + r15) (x4 + (1 : Int32))))
         (lm_lt (lm_u σx 1 15 ((σx 1 15) + (1 : Int32))) fun σ16 =>
         lm_br (¬ (σ16 1 2) = 0)
          (F_X7_keeps_L20 n σ16 x1 x2 (x3 + (0 : Int32)) (x4 + (1 : Int32)))
          (lm_b2 (F_X7_throwsOut σ16 x4) fun r19 σ18 =>
          F_X7_keeps_L20 n σ18 x1 x2 (x3 + r19) (x4 + (1 : Int32))))))
       (lm_br (¬ x4 = x2)
        (F_X7_keeps_L20 n σx x1 x2 x3 (x4 + (1 : Int32)))
        (lm_br (¬ (σx 1 2) = (2 : Int32))
         (lm_lt (lm_u σx 1 15 ((σx 1 15) + (0 : Int32))) fun σ22 =>
         lm_br (¬ (σ22 1 2) = 0)
          (F_X7_keeps_L20 n σ22 x1 x2 (x3 + (0 : Int32)) (x4 + (1 : Int32)))
          (lm_b2 (F_X7_throwsOut σ22 x4) fun r25 σ24 =>
          F_X7_keeps_L20 n σ24 x1 x2 (x3 + r25) (x4 + (1 : Int32))))
         (lm_bd (F_X7_isKnown σx x4) fun r26 =>
         lm_br (r26 = 0)
          (lm_lt (lm_u σx 1 15 ((σx 1 15) + (0 : Int32))) fun σ28 =>
          lm_br (¬ (σ28 1 2) = 0)
           (F_X7_keeps_L20 n σ28 x1 x2 (x3 + (0 : Int32)) (x4 + (1 : Int32)))
           (lm_b2 (F_X7_throwsOut σ28 x4) fun r31 σ30 =>
           F_X7_keeps_L20 n σ30 x1 x2 (x3 + r31) (x4 + (1 : Int32))))
          (lm_lt (lm_u σx 1 15 ((σx 1 15) + (1 : Int32))) fun σ32 =>
          lm_br (¬ (σ32 1 2) = 0)
           (F_X7_keeps_L20 n σ32 x1 x2 (x3 + (0 : Int32)) (x4 + (1 : Int32)))
           (lm_b2 (F_X7_throwsOut σ32 x4) fun r35 σ34 =>
           F_X7_keeps_L20 n σ34 x1 x2 (x3 + r35) (x4 + (1 : Int32)))))))))
def F_X7_keeps (σ : Hp) (x1 x2 : Int32) : Option (Hp) :=
  lm_br (¬ (σ 1 2) = (1 : Int32))
   (F_X7_keeps_L20 1000 σ x1 x2 (0 : Int32) (0 : Int32))
   (lm_b2 (F_X7_throwsAll σ) fun r37 σ36 =>
   F_X7_keeps_L20 1000 σ36 x1 x2 r37 (0 : Int32))
theorem in7_X7_keeps : ∀ w ∈ u_ws RX7 TX7 14, w ∈ wsX7_keeps := by decide +kernel
theorem fl7_X7_keeps : Cond.fieldLink RX7 7 "LoopMemoModel" "s" "[I" ∈ wsX7_keeps := by decide +kernel
set_option maxRecDepth 100000 in
set_option maxHeartbeats 4000000 in
theorem m_X7_keeps (D : va_G) (z zo : ClassId) (l : Launch) (a : Nat → Nat) (σ : Hp) (x1 x2 : Int32)  (σ' : Hp) (hF : F_X7_keeps σ x1 x2 = some σ') : lm_C D z zo l yX7_keeps wsX7_keeps 3 64 [.ref (a 0), .int x1, .int x2] (mdW z a σ) none (mdW z a σ') := by
  refine lm_C.of (by decide) rfl (Nat.le_of_ble_eq_true rfl) (own := RX7) rfl ?_
  intro p e s m_ args below meth c C hr hk hA
  have loop_20 : ∀ (n : Nat) (σx : Hp) (x1 : Int32) (x2 : Int32) (x3 : Int32) (x4 : Int32), F_X7_keeps_L20 n σx x1 x2 x3 x4 = some σ' → lm_St p l e ({ frames := 3, cells := 0, slots := 0, locals := 64 }) s m_ args below meth c D (va_A (mdW z a σ) s.heap.size) 5 0 0 (lm_End below D none (mdW z a σ) (mdW z a σ') args s) false (mdW z a σx) 20 [(0, .ref (a 0)), (1, .int x1), (2, .int x2), (3, .int x3), (4, .int x4)] [] := by
    intro n
    induction n with
    | zero => intro σx x1 x2 x3 x4 hF; cases (show (none : Option _) = some _ from hF)
    | succ n ih =>
      intro σx x1 x2 x3 x4 hF
      rw [F_X7_keeps_L20] at hF
      refine lm_iload C dX7_keeps_20 4 rfl rfl ?_
      refine lm_bipush C (v := (10 : Int32)) dX7_keeps_22 (by decide) rfl ?_
      refine lm_icmp_ge C (tgt := 105) dX7_keeps_24 (by decide) rfl (fun c2 => ?_) (fun c2 => ?_)
      · have hF := lm_brt hF c2
        cases hF
        exact lm_vret C hr hk rfl rfl dX7_keeps_105
      · have hF := lm_brf hF c2
        refine lm_iload_n C dX7_keeps_27 rfl 3 rfl rfl ?_
        refine lm_if_lt C (tgt := 105) dX7_keeps_28 (by decide) rfl (fun c3 => ?_) (fun c3 => ?_)
        · have hF := lm_brt hF c3
          cases hF
          exact lm_vret C hr hk rfl rfl dX7_keeps_105
        · have hF := lm_brf hF c3
          refine lm_iload C dX7_keeps_31 4 rfl rfl ?_
          refine lm_iload_n C dX7_keeps_33 rfl 1 rfl rfl ?_
          refine lm_icmp_eq C (tgt := 43) dX7_keeps_34 (by decide) rfl (fun c4 => ?_) (fun c4 => ?_)
          · have hF := lm_brt hF c4
            refine lm_aload_n C dX7_keeps_43 rfl 0 rfl rfl ?_
            refine lm_getf C (T := TX7) (N := 14) (v := .ref (a 1)) in7_X7_keeps 0 rfl rfl 0 (by decide) fl7_X7_keeps rfl rfl dX7_keeps_44 rfl ?_
            refine lm_bipush C (v := (15 : Int32)) dX7_keeps_47 (by decide) rfl ?_
            refine lm_dup2 C dX7_keeps_49 rfl rfl rfl ?_
            refine lm_iald C (v := (σx 1 15)) 1 rfl (by unfold vp_in; decide) rfl dX7_keeps_50 rfl ?_
            refine lm_aload_n C dX7_keeps_51 rfl 0 rfl rfl ?_
            refine lm_getf C (T := TX7) (N := 14) (v := .ref (a 1)) in7_X7_keeps 0 rfl rfl 0 (by decide) fl7_X7_keeps rfl rfl dX7_keeps_52 rfl ?_
            refine lm_iconst C (v := (2 : Int32)) dX7_keeps_55 (by decide) rfl ?_
            refine lm_iald C (v := (σx 1 2)) 1 rfl (by unfold vp_in; decide) rfl dX7_keeps_56 rfl ?_
            refine lm_iconst C (v := (2 : Int32)) dX7_keeps_57 (by decide) rfl ?_
            refine lm_icmp_ne C (tgt := 74) dX7_keeps_58 (by decide) rfl (fun c5 => ?_) (fun c5 => ?_)
            · have hF := lm_brt hF c5
              refine lm_iconst C (v := (0 : Int32)) dX7_keeps_74 (by decide) rfl ?_
              refine lm_iadd C dX7_keeps_75 rfl rfl ?_
              obtain ⟨σ6, eσ6, hF⟩ := lm_lte hF
              refine lm_iast C (w' := (mdW z a σ6)) 1 rfl (by unfold vp_in; decide) dX7_keeps_76 (by rw [← eσ6]; rfl) rfl ?_
              refine lm_iload_n C dX7_keeps_77 rfl 3 rfl rfl ?_
              refine lm_aload_n C dX7_keeps_78 rfl 0 rfl rfl ?_
              refine lm_getf C (T := TX7) (N := 14) (v := .ref (a 1)) in7_X7_keeps 0 rfl rfl 0 (by decide) fl7_X7_keeps rfl rfl dX7_keeps_79 rfl ?_
              refine lm_iconst C (v := (2 : Int32)) dX7_keeps_82 (by decide) rfl ?_
              refine lm_iald C (v := (σ6 1 2)) 1 rfl (by unfold vp_in; decide) rfl dX7_keeps_83 rfl ?_
              refine lm_if_ne C (tgt := 96) dX7_keeps_84 (by decide) rfl (fun c7 => ?_) (fun c7 => ?_)
              · have hF := lm_brt hF c7
                refine lm_iconst C (v := (0 : Int32)) dX7_keeps_96 (by decide) rfl ?_
                refine lm_iadd C dX7_keeps_97 rfl rfl ?_
                refine lm_istore_n C (lv' := [(0, .ref (a 0)), (1, .int x1), (2, .int x2), (3, .int (x3 + (0 : Int32))), (4, .int x4)]) dX7_keeps_98 rfl (by decide) rfl [1, 2, 3, 0, 4] rfl rfl ?_
                refine lm_iinc C (lv' := [(0, .ref (a 0)), (1, .int x1), (2, .int x2), (3, .int (x3 + (0 : Int32))), (4, .int (x4 + (1 : Int32)))]) (x4 + (1 : Int32)) dX7_keeps_99 4 rfl rfl (by decide) rfl [1, 2, 3, 4, 0] rfl rfl ?_
                refine lm_goto C (tgt := 20) dX7_keeps_102 (by decide) ?_
                exact ih σ6 x1 x2 (x3 + (0 : Int32)) (x4 + (1 : Int32)) hF
              · have hF := lm_brf hF c7
                refine lm_aload_n C dX7_keeps_87 rfl 0 rfl rfl ?_
                refine lm_iload C dX7_keeps_88 4 rfl rfl ?_
                obtain ⟨r9, σ8, qσ8, hF⟩ := lm_b2e hF
                refine lm_callV C (n := 1) (ci := 7) (w' := (mdW z a σ8)) hA (m_X7_throwsOut D z zo l a σ6 x4 r9 σ8 qσ8) gX7_keeps_X7_throwsOut rfl (by decide +kernel) ⟨Nat.le_of_ble_eq_true rfl, Nat.le_of_ble_eq_true rfl⟩ ⟨Nat.le_of_ble_eq_true rfl, Nat.le_of_ble_eq_true rfl⟩ 0 rfl rfl lm_pr lm_pr' rfl rfl (Nat.le_of_ble_eq_true rfl) dX7_keeps_90 (st' := [.int r9, .int x3]) rfl rfl ?_
                refine lm_goto C (tgt := 97) dX7_keeps_93 (by decide) ?_
                refine lm_iadd C dX7_keeps_97 rfl rfl ?_
                refine lm_istore_n C (lv' := [(0, .ref (a 0)), (1, .int x1), (2, .int x2), (3, .int (x3 + r9)), (4, .int x4)]) dX7_keeps_98 rfl (by decide) rfl [1, 2, 3, 0, 4] rfl rfl ?_
                refine lm_iinc C (lv' := [(0, .ref (a 0)), (1, .int x1), (2, .int x2), (3, .int (x3 + r9)), (4, .int (x4 + (1 : Int32)))]) (x4 + (1 : Int32)) dX7_keeps_99 4 rfl rfl (by decide) rfl [1, 2, 3, 4, 0] rfl rfl ?_
                refine lm_goto C (tgt := 20) dX7_keeps_102 (by decide) ?_
                exact ih σ8 x1 x2 (x3 + r9) (x4 + (1 : Int32)) hF
            · have hF := lm_brf hF c5
              refine lm_aload_n C dX7_keeps_61 rfl 0 rfl rfl ?_
              refine lm_iload C dX7_keeps_62 4 rfl rfl ?_
              obtain ⟨r10, qr10, hF⟩ := lm_bde hF
              refine lm_callVR C (n := 1) (ci := 7) (m_X7_isKnown D z zo l a σx x4 r10 qr10) gX7_keeps_X7_isKnown rfl (by decide +kernel) ⟨Nat.le_of_ble_eq_true rfl, Nat.le_of_ble_eq_true rfl⟩ ⟨Nat.le_of_ble_eq_true rfl, Nat.le_of_ble_eq_true rfl⟩ 0 rfl rfl (fun _ h => h) rfl rfl (Nat.le_of_ble_eq_true rfl) dX7_keeps_64 (st' := [.int r10, .int (σx 1 15), .int (15 : Int32), .ref (a 1)]) rfl rfl ?_
              refine lm_if_eq C (tgt := 74) dX7_keeps_67 (by decide) rfl (fun c11 => ?_) (fun c11 => ?_)
              · have hF := lm_brt hF c11
                refine lm_iconst C (v := (0 : Int32)) dX7_keeps_74 (by decide) rfl ?_
                refine lm_iadd C dX7_keeps_75 rfl rfl ?_
                obtain ⟨σ12, eσ12, hF⟩ := lm_lte hF
                refine lm_iast C (w' := (mdW z a σ12)) 1 rfl (by unfold vp_in; decide) dX7_keeps_76 (by rw [← eσ12]; rfl) rfl ?_
                refine lm_iload_n C dX7_keeps_77 rfl 3 rfl rfl ?_
                refine lm_aload_n C dX7_keeps_78 rfl 0 rfl rfl ?_
                refine lm_getf C (T := TX7) (N := 14) (v := .ref (a 1)) in7_X7_keeps 0 rfl rfl 0 (by decide) fl7_X7_keeps rfl rfl dX7_keeps_79 rfl ?_
                refine lm_iconst C (v := (2 : Int32)) dX7_keeps_82 (by decide) rfl ?_
                refine lm_iald C (v := (σ12 1 2)) 1 rfl (by unfold vp_in; decide) rfl dX7_keeps_83 rfl ?_
                refine lm_if_ne C (tgt := 96) dX7_keeps_84 (by decide) rfl (fun c13 => ?_) (fun c13 => ?_)
                · have hF := lm_brt hF c13
                  refine lm_iconst C (v := (0 : Int32)) dX7_keeps_96 (by decide) rfl ?_
                  refine lm_iadd C dX7_keeps_97 rfl rfl ?_
                  refine lm_istore_n C (lv' := [(0, .ref (a 0)), (1, .int x1), (2, .int x2), (3, .int (x3 + (0 : Int32))), (4, .int x4)]) dX7_keeps_98 rfl (by decide) rfl [1, 2, 3, 0, 4] rfl rfl ?_
                  refine lm_iinc C (lv' := [(0, .ref (a 0)), (1, .int x1), (2, .int x2), (3, .int (x3 + (0 : Int32))), (4, .int (x4 + (1 : Int32)))]) (x4 + (1 : Int32)) dX7_keeps_99 4 rfl rfl (by decide) rfl [1, 2, 3, 4, 0] rfl rfl ?_
                  refine lm_goto C (tgt := 20) dX7_keeps_102 (by decide) ?_
                  exact ih σ12 x1 x2 (x3 + (0 : Int32)) (x4 + (1 : Int32)) hF
                · have hF := lm_brf hF c13
                  refine lm_aload_n C dX7_keeps_87 rfl 0 rfl rfl ?_
                  refine lm_iload C dX7_keeps_88 4 rfl rfl ?_
                  obtain ⟨r15, σ14, qσ14, hF⟩ := lm_b2e hF
                  refine lm_callV C (n := 1) (ci := 7) (w' := (mdW z a σ14)) hA (m_X7_throwsOut D z zo l a σ12 x4 r15 σ14 qσ14) gX7_keeps_X7_throwsOut rfl (by decide +kernel) ⟨Nat.le_of_ble_eq_true rfl, Nat.le_of_ble_eq_true rfl⟩ ⟨Nat.le_of_ble_eq_true rfl, Nat.le_of_ble_eq_true rfl⟩ 0 rfl rfl lm_pr lm_pr' rfl rfl (Nat.le_of_ble_eq_true rfl) dX7_keeps_90 (st' := [.int r15, .int x3]) rfl rfl ?_
                  refine lm_goto C (tgt := 97) dX7_keeps_93 (by decide) ?_
                  refine lm_iadd C dX7_keeps_97 rfl rfl ?_
                  refine lm_istore_n C (lv' := [(0, .ref (a 0)), (1, .int x1), (2, .int x2), (3, .int (x3 + r15)), (4, .int x4)]) dX7_keeps_98 rfl (by decide) rfl [1, 2, 3, 0, 4] rfl rfl ?_
                  refine lm_iinc C (lv' := [(0, .ref (a 0)), (1, .int x1), (2, .int x2), (3, .int (x3 + r15)), (4, .int (x4 + (1 : Int32)))]) (x4 + (1 : Int32)) dX7_keeps_99 4 rfl rfl (by decide) rfl [1, 2, 3, 4, 0] rfl rfl ?_
                  refine lm_goto C (tgt := 20) dX7_keeps_102 (by decide) ?_
                  exact ih σ14 x1 x2 (x3 + r15) (x4 + (1 : Int32)) hF
              · have hF := lm_brf hF c11
                refine lm_iconst C (v := (1 : Int32)) dX7_keeps_70 (by decide) rfl ?_
                refine lm_goto C (tgt := 75) dX7_keeps_71 (by decide) ?_
                refine lm_iadd C dX7_keeps_75 rfl rfl ?_
                obtain ⟨σ16, eσ16, hF⟩ := lm_lte hF
                refine lm_iast C (w' := (mdW z a σ16)) 1 rfl (by unfold vp_in; decide) dX7_keeps_76 (by rw [← eσ16]; rfl) rfl ?_
                refine lm_iload_n C dX7_keeps_77 rfl 3 rfl rfl ?_
                refine lm_aload_n C dX7_keeps_78 rfl 0 rfl rfl ?_
                refine lm_getf C (T := TX7) (N := 14) (v := .ref (a 1)) in7_X7_keeps 0 rfl rfl 0 (by decide) fl7_X7_keeps rfl rfl dX7_keeps_79 rfl ?_
                refine lm_iconst C (v := (2 : Int32)) dX7_keeps_82 (by decide) rfl ?_
                refine lm_iald C (v := (σ16 1 2)) 1 rfl (by unfold vp_in; decide) rfl dX7_keeps_83 rfl ?_
                refine lm_if_ne C (tgt := 96) dX7_keeps_84 (by decide) rfl (fun c17 => ?_) (fun c17 => ?_)
                · have hF := lm_brt hF c17
                  refine lm_iconst C (v := (0 : Int32)) dX7_keeps_96 (by decide) rfl ?_
                  refine lm_iadd C dX7_keeps_97 rfl rfl ?_
                  refine lm_istore_n C (lv' := [(0, .ref (a 0)), (1, .int x1), (2, .int x2), (3, .int (x3 + (0 : Int32))), (4, .int x4)]) dX7_keeps_98 rfl (by decide) rfl [1, 2, 3, 0, 4] rfl rfl ?_
                  refine lm_iinc C (lv' := [(0, .ref (a 0)), (1, .int x1), (2, .int x2), (3, .int (x3 + (0 : Int32))), (4, .int (x4 + (1 : Int32)))]) (x4 + (1 : Int32)) dX7_keeps_99 4 rfl rfl (by decide) rfl [1, 2, 3, 4, 0] rfl rfl ?_
                  refine lm_goto C (tgt := 20) dX7_keeps_102 (by decide) ?_
                  exact ih σ16 x1 x2 (x3 + (0 : Int32)) (x4 + (1 : Int32)) hF
                · have hF := lm_brf hF c17
                  refine lm_aload_n C dX7_keeps_87 rfl 0 rfl rfl ?_
                  refine lm_iload C dX7_keeps_88 4 rfl rfl ?_
                  obtain ⟨r19, σ18, qσ18, hF⟩ := lm_b2e hF
                  refine lm_callV C (n := 1) (ci := 7) (w' := (mdW z a σ18)) hA (m_X7_throwsOut D z zo l a σ16 x4 r19 σ18 qσ18) gX7_keeps_X7_throwsOut rfl (by decide +kernel) ⟨Nat.le_of_ble_eq_true rfl, Nat.le_of_ble_eq_true rfl⟩ ⟨Nat.le_of_ble_eq_true rfl, Nat.le_of_ble_eq_true rfl⟩ 0 rfl rfl lm_pr lm_pr' rfl rfl (Nat.le_of_ble_eq_true rfl) dX7_keeps_90 (st' := [.int r19, .int x3]) rfl rfl ?_
                  refine lm_goto C (tgt := 97) dX7_keeps_93 (by decide) ?_
                  refine lm_iadd C dX7_keeps_97 rfl rfl ?_
                  refine lm_istore_n C (lv' := [(0, .ref (a 0)), (1, .int x1), (2, .int x2), (3, .int (x3 + r19)), (4, .int x4)]) dX7_keeps_98 rfl (by decide) rfl [1, 2, 3, 0, 4] rfl rfl ?_
                  refine lm_iinc C (lv' := [(0, .ref (a 0)), (1, .int x1), (2, .int x2), (3, .int (x3 + r19)), (4, .int (x4 + (1 : Int32)))]) (x4 + (1 : Int32)) dX7_keeps_99 4 rfl rfl (by decide) rfl [1, 2, 3, 4, 0] rfl rfl ?_
                  refine lm_goto C (tgt := 20) dX7_keeps_102 (by decide) ?_
                  exact ih σ18 x1 x2 (x3 + r19) (x4 + (1 : Int32)) hF
          · have hF := lm_brf hF c4
            refine lm_iload C dX7_keeps_37 4 rfl rfl ?_
            refine lm_iload_n C dX7_keeps_39 rfl 2 rfl rfl ?_
            refine lm_icmp_ne C (tgt := 99) dX7_keeps_40 (by decide) rfl (fun c20 => ?_) (fun c20 => ?_)
            · have hF := lm_brt hF c20
              refine lm_iinc C (lv' := [(0, .ref (a 0)), (1, .int x1), (2, .int x2), (3, .int x3), (4, .int (x4 + (1 : Int32)))]) (x4 + (1 : Int32)) dX7_keeps_99 4 rfl rfl (by decide) rfl [1, 2, 3, 4, 0] rfl rfl ?_
              refine lm_goto C (tgt := 20) dX7_keeps_102 (by decide) ?_
              exact ih σx x1 x2 x3 (x4 + (1 : Int32)) hF
            · have hF := lm_brf hF c20
              refine lm_aload_n C dX7_keeps_43 rfl 0 rfl rfl ?_
              refine lm_getf C (T := TX7) (N := 14) (v := .ref (a 1)) in7_X7_keeps 0 rfl rfl 0 (by decide) fl7_X7_keeps rfl rfl dX7_keeps_44 rfl ?_
              refine lm_bipush C (v := (15 : Int32)) dX7_keeps_47 (by decide) rfl ?_
              refine lm_dup2 C dX7_keeps_49 rfl rfl rfl ?_
              refine lm_iald C (v := (σx 1 15)) 1 rfl (by unfold vp_in; decide) rfl dX7_keeps_50 rfl ?_
              refine lm_aload_n C dX7_keeps_51 rfl 0 rfl rfl ?_
              refine lm_getf C (T := TX7) (N := 14) (v := .ref (a 1)) in7_X7_keeps 0 rfl rfl 0 (by decide) fl7_X7_keeps rfl rfl dX7_keeps_52 rfl ?_
              refine lm_iconst C (v := (2 : Int32)) dX7_keeps_55 (by decide) rfl ?_
              refine lm_iald C (v := (σx 1 2)) 1 rfl (by unfold vp_in; decide) rfl dX7_keeps_56 rfl ?_
              refine lm_iconst C (v := (2 : Int32)) dX7_keeps_57 (by decide) rfl ?_
              refine lm_icmp_ne C (tgt := 74) dX7_keeps_58 (by decide) rfl (fun c21 => ?_) (fun c21 => ?_)
              · have hF := lm_brt hF c21
                refine lm_iconst C (v := (0 : Int32)) dX7_keeps_74 (by decide) rfl ?_
                refine lm_iadd C dX7_keeps_75 rfl rfl ?_
                obtain ⟨σ22, eσ22, hF⟩ := lm_lte hF
                refine lm_iast C (w' := (mdW z a σ22)) 1 rfl (by unfold vp_in; decide) dX7_keeps_76 (by rw [← eσ22]; rfl) rfl ?_
                refine lm_iload_n C dX7_keeps_77 rfl 3 rfl rfl ?_
                refine lm_aload_n C dX7_keeps_78 rfl 0 rfl rfl ?_
                refine lm_getf C (T := TX7) (N := 14) (v := .ref (a 1)) in7_X7_keeps 0 rfl rfl 0 (by decide) fl7_X7_keeps rfl rfl dX7_keeps_79 rfl ?_
                refine lm_iconst C (v := (2 : Int32)) dX7_keeps_82 (by decide) rfl ?_
                refine lm_iald C (v := (σ22 1 2)) 1 rfl (by unfold vp_in; decide) rfl dX7_keeps_83 rfl ?_
                refine lm_if_ne C (tgt := 96) dX7_keeps_84 (by decide) rfl (fun c23 => ?_) (fun c23 => ?_)
                · have hF := lm_brt hF c23
                  refine lm_iconst C (v := (0 : Int32)) dX7_keeps_96 (by decide) rfl ?_
                  refine lm_iadd C dX7_keeps_97 rfl rfl ?_
                  refine lm_istore_n C (lv' := [(0, .ref (a 0)), (1, .int x1), (2, .int x2), (3, .int (x3 + (0 : Int32))), (4, .int x4)]) dX7_keeps_98 rfl (by decide) rfl [1, 2, 3, 0, 4] rfl rfl ?_
                  refine lm_iinc C (lv' := [(0, .ref (a 0)), (1, .int x1), (2, .int x2), (3, .int (x3 + (0 : Int32))), (4, .int (x4 + (1 : Int32)))]) (x4 + (1 : Int32)) dX7_keeps_99 4 rfl rfl (by decide) rfl [1, 2, 3, 4, 0] rfl rfl ?_
                  refine lm_goto C (tgt := 20) dX7_keeps_102 (by decide) ?_
                  exact ih σ22 x1 x2 (x3 + (0 : Int32)) (x4 + (1 : Int32)) hF
                · have hF := lm_brf hF c23
                  refine lm_aload_n C dX7_keeps_87 rfl 0 rfl rfl ?_
                  refine lm_iload C dX7_keeps_88 4 rfl rfl ?_
                  obtain ⟨r25, σ24, qσ24, hF⟩ := lm_b2e hF
                  refine lm_callV C (n := 1) (ci := 7) (w' := (mdW z a σ24)) hA (m_X7_throwsOut D z zo l a σ22 x4 r25 σ24 qσ24) gX7_keeps_X7_throwsOut rfl (by decide +kernel) ⟨Nat.le_of_ble_eq_true rfl, Nat.le_of_ble_eq_true rfl⟩ ⟨Nat.le_of_ble_eq_true rfl, Nat.le_of_ble_eq_true rfl⟩ 0 rfl rfl lm_pr lm_pr' rfl rfl (Nat.le_of_ble_eq_true rfl) dX7_keeps_90 (st' := [.int r25, .int x3]) rfl rfl ?_
                  refine lm_goto C (tgt := 97) dX7_keeps_93 (by decide) ?_
                  refine lm_iadd C dX7_keeps_97 rfl rfl ?_
                  refine lm_istore_n C (lv' := [(0, .ref (a 0)), (1, .int x1), (2, .int x2), (3, .int (x3 + r25)), (4, .int x4)]) dX7_keeps_98 rfl (by decide) rfl [1, 2, 3, 0, 4] rfl rfl ?_
                  refine lm_iinc C (lv' := [(0, .ref (a 0)), (1, .int x1), (2, .int x2), (3, .int (x3 + r25)), (4, .int (x4 + (1 : Int32)))]) (x4 + (1 : Int32)) dX7_keeps_99 4 rfl rfl (by decide) rfl [1, 2, 3, 4, 0] rfl rfl ?_
                  refine lm_goto C (tgt := 20) dX7_keeps_102 (by decide) ?_
                  exact ih σ24 x1 x2 (x3 + r25) (x4 + (1 : Int32)) hF
              · have hF := lm_brf hF c21
                refine lm_aload_n C dX7_keeps_61 rfl 0 rfl rfl ?_
                refine lm_iload C dX7_keeps_62 4 rfl rfl ?_
                obtain ⟨r26, qr26, hF⟩ := lm_bde hF
                refine lm_callVR C (n := 1) (ci := 7) (m_X7_isKnown D z zo l a σx x4 r26 qr26) gX7_keeps_X7_isKnown rfl (by decide +kernel) ⟨Nat.le_of_ble_eq_true rfl, Nat.le_of_ble_eq_true rfl⟩ ⟨Nat.le_of_ble_eq_true rfl, Nat.le_of_ble_eq_true rfl⟩ 0 rfl rfl (fun _ h => h) rfl rfl (Nat.le_of_ble_eq_true rfl) dX7_keeps_64 (st' := [.int r26, .int (σx 1 15), .int (15 : Int32), .ref (a 1)]) rfl rfl ?_
                refine lm_if_eq C (tgt := 74) dX7_keeps_67 (by decide) rfl (fun c27 => ?_) (fun c27 => ?_)
                · have hF := lm_brt hF c27
                  refine lm_iconst C (v := (0 : Int32)) dX7_keeps_74 (by decide) rfl ?_
                  refine lm_iadd C dX7_keeps_75 rfl rfl ?_
                  obtain ⟨σ28, eσ28, hF⟩ := lm_lte hF
                  refine lm_iast C (w' := (mdW z a σ28)) 1 rfl (by unfold vp_in; decide) dX7_keeps_76 (by rw [← eσ28]; rfl) rfl ?_
                  refine lm_iload_n C dX7_keeps_77 rfl 3 rfl rfl ?_
                  refine lm_aload_n C dX7_keeps_78 rfl 0 rfl rfl ?_
                  refine lm_getf C (T := TX7) (N := 14) (v := .ref (a 1)) in7_X7_keeps 0 rfl rfl 0 (by decide) fl7_X7_keeps rfl rfl dX7_keeps_79 rfl ?_
                  refine lm_iconst C (v := (2 : Int32)) dX7_keeps_82 (by decide) rfl ?_
                  refine lm_iald C (v := (σ28 1 2)) 1 rfl (by unfold vp_in; decide) rfl dX7_keeps_83 rfl ?_
                  refine lm_if_ne C (tgt := 96) dX7_keeps_84 (by decide) rfl (fun c29 => ?_) (fun c29 => ?_)
                  · have hF := lm_brt hF c29
                    refine lm_iconst C (v := (0 : Int32)) dX7_keeps_96 (by decide) rfl ?_
                    refine lm_iadd C dX7_keeps_97 rfl rfl ?_
                    refine lm_istore_n C (lv' := [(0, .ref (a 0)), (1, .int x1), (2, .int x2), (3, .int (x3 + (0 : Int32))), (4, .int x4)]) dX7_keeps_98 rfl (by decide) rfl [1, 2, 3, 0, 4] rfl rfl ?_
                    refine lm_iinc C (lv' := [(0, .ref (a 0)), (1, .int x1), (2, .int x2), (3, .int (x3 + (0 : Int32))), (4, .int (x4 + (1 : Int32)))]) (x4 + (1 : Int32)) dX7_keeps_99 4 rfl rfl (by decide) rfl [1, 2, 3, 4, 0] rfl rfl ?_
                    refine lm_goto C (tgt := 20) dX7_keeps_102 (by decide) ?_
                    exact ih σ28 x1 x2 (x3 + (0 : Int32)) (x4 + (1 : Int32)) hF
                  · have hF := lm_brf hF c29
                    refine lm_aload_n C dX7_keeps_87 rfl 0 rfl rfl ?_
                    refine lm_iload C dX7_keeps_88 4 rfl rfl ?_
                    obtain ⟨r31, σ30, qσ30, hF⟩ := lm_b2e hF
                    refine lm_callV C (n := 1) (ci := 7) (w' := (mdW z a σ30)) hA (m_X7_throwsOut D z zo l a σ28 x4 r31 σ30 qσ30) gX7_keeps_X7_throwsOut rfl (by decide +kernel) ⟨Nat.le_of_ble_eq_true rfl, Nat.le_of_ble_eq_true rfl⟩ ⟨Nat.le_of_ble_eq_true rfl, Nat.le_of_ble_eq_true rfl⟩ 0 rfl rfl lm_pr lm_pr' rfl rfl (Nat.le_of_ble_eq_true rfl) dX7_keeps_90 (st' := [.int r31, .int x3]) rfl rfl ?_
                    refine lm_goto C (tgt := 97) dX7_keeps_93 (by decide) ?_
                    refine lm_iadd C dX7_keeps_97 rfl rfl ?_
                    refine lm_istore_n C (lv' := [(0, .ref (a 0)), (1, .int x1), (2, .int x2), (3, .int (x3 + r31)), (4, .int x4)]) dX7_keeps_98 rfl (by decide) rfl [1, 2, 3, 0, 4] rfl rfl ?_
                    refine lm_iinc C (lv' := [(0, .ref (a 0)), (1, .int x1), (2, .int x2), (3, .int (x3 + r31)), (4, .int (x4 + (1 : Int32)))]) (x4 + (1 : Int32)) dX7_keeps_99 4 rfl rfl (by decide) rfl [1, 2, 3, 4, 0] rfl rfl ?_
                    refine lm_goto C (tgt := 20) dX7_keeps_102 (by decide) ?_
                    exact ih σ30 x1 x2 (x3 + r31) (x4 + (1 : Int32)) hF
                · have hF := lm_brf hF c27
                  refine lm_iconst C (v := (1 : Int32)) dX7_keeps_70 (by decide) rfl ?_
                  refine lm_goto C (tgt := 75) dX7_keeps_71 (by decide) ?_
                  refine lm_iadd C dX7_keeps_75 rfl rfl ?_
                  obtain ⟨σ32, eσ32, hF⟩ := lm_lte hF
                  refine lm_iast C (w' := (mdW z a σ32)) 1 rfl (by unfold vp_in; decide) dX7_keeps_76 (by rw [← eσ32]; rfl) rfl ?_
                  refine lm_iload_n C dX7_keeps_77 rfl 3 rfl rfl ?_
                  refine lm_aload_n C dX7_keeps_78 rfl 0 rfl rfl ?_
                  refine lm_getf C (T := TX7) (N := 14) (v := .ref (a 1)) in7_X7_keeps 0 rfl rfl 0 (by decide) fl7_X7_keeps rfl rfl dX7_keeps_79 rfl ?_
                  refine lm_iconst C (v := (2 : Int32)) dX7_keeps_82 (by decide) rfl ?_
                  refine lm_iald C (v := (σ32 1 2)) 1 rfl (by unfold vp_in; decide) rfl dX7_keeps_83 rfl ?_
                  refine lm_if_ne C (tgt := 96) dX7_keeps_84 (by decide) rfl (fun c33 => ?_) (fun c33 => ?_)
                  · have hF := lm_brt hF c33
                    refine lm_iconst C (v := (0 : Int32)) dX7_keeps_96 (by decide) rfl ?_
                    refine lm_iadd C dX7_keeps_97 rfl rfl ?_
                    refine lm_istore_n C (lv' := [(0, .ref (a 0)), (1, .int x1), (2, .int x2), (3, .int (x3 + (0 : Int32))), (4, .int x4)]) dX7_keeps_98 rfl (by decide) rfl [1, 2, 3, 0, 4] rfl rfl ?_
                    refine lm_iinc C (lv' := [(0, .ref (a 0)), (1, .int x1), (2, .int x2), (3, .int (x3 + (0 : Int32))), (4, .int (x4 + (1 : Int32)))]) (x4 + (1 : Int32)) dX7_keeps_99 4 rfl rfl (by decide) rfl [1, 2, 3, 4, 0] rfl rfl ?_
                    refine lm_goto C (tgt := 20) dX7_keeps_102 (by decide) ?_
                    exact ih σ32 x1 x2 (x3 + (0 : Int32)) (x4 + (1 : Int32)) hF
                  · have hF := lm_brf hF c33
                    refine lm_aload_n C dX7_keeps_87 rfl 0 rfl rfl ?_
                    refine lm_iload C dX7_keeps_88 4 rfl rfl ?_
                    obtain ⟨r35, σ34, qσ34, hF⟩ := lm_b2e hF
                    refine lm_callV C (n := 1) (ci := 7) (w' := (mdW z a σ34)) hA (m_X7_throwsOut D z zo l a σ32 x4 r35 σ34 qσ34) gX7_keeps_X7_throwsOut rfl (by decide +kernel) ⟨Nat.le_of_ble_eq_true rfl, Nat.le_of_ble_eq_true rfl⟩ ⟨Nat.le_of_ble_eq_true rfl, Nat.le_of_ble_eq_true rfl⟩ 0 rfl rfl lm_pr lm_pr' rfl rfl (Nat.le_of_ble_eq_true rfl) dX7_keeps_90 (st' := [.int r35, .int x3]) rfl rfl ?_
                    refine lm_goto C (tgt := 97) dX7_keeps_93 (by decide) ?_
                    refine lm_iadd C dX7_keeps_97 rfl rfl ?_
                    refine lm_istore_n C (lv' := [(0, .ref (a 0)), (1, .int x1), (2, .int x2), (3, .int (x3 + r35)), (4, .int x4)]) dX7_keeps_98 rfl (by decide) rfl [1, 2, 3, 0, 4] rfl rfl ?_
                    refine lm_iinc C (lv' := [(0, .ref (a 0)), (1, .int x1), (2, .int x2), (3, .int (x3 + r35)), (4, .int (x4 + (1 : Int32)))]) (x4 + (1 : Int32)) dX7_keeps_99 4 rfl rfl (by decide) rfl [1, 2, 3, 4, 0] rfl rfl ?_
                    refine lm_goto C (tgt := 20) dX7_keeps_102 (by decide) ?_
                    exact ih σ34 x1 x2 (x3 + r35) (x4 + (1 : Int32)) hF
  show lm_St p l e ({ frames := 3, cells := 0, slots := 0, locals := 64 }) s m_ args below meth c D (va_A (mdW z a σ) s.heap.size) 5 0 0 (lm_End below D none (mdW z a σ) (mdW z a σ') args s) false (mdW z a σ) 0 [(0, .ref (a 0)), (1, .int x1), (2, .int x2)] []
  rw [F_X7_keeps] at hF
  refine lm_iconst C (v := (0 : Int32)) dX7_keeps_0 (by decide) rfl ?_
  refine lm_istore_n C (lv' := [(0, .ref (a 0)), (1, .int x1), (2, .int x2), (3, .int (0 : Int32))]) dX7_keeps_1 rfl (by decide) rfl [1, 2, 3, 0] rfl rfl ?_
  refine lm_aload_n C dX7_keeps_2 rfl 0 rfl rfl ?_
  refine lm_getf C (T := TX7) (N := 14) (v := .ref (a 1)) in7_X7_keeps 0 rfl rfl 0 (by decide) fl7_X7_keeps rfl rfl dX7_keeps_3 rfl ?_
  refine lm_iconst C (v := (2 : Int32)) dX7_keeps_6 (by decide) rfl ?_
  refine lm_iald C (v := (σ 1 2)) 1 rfl (by unfold vp_in; decide) rfl dX7_keeps_7 rfl ?_
  refine lm_iconst C (v := (1 : Int32)) dX7_keeps_8 (by decide) rfl ?_
  refine lm_icmp_ne C (tgt := 17) dX7_keeps_9 (by decide) rfl (fun c1 => ?_) (fun c1 => ?_)
  · have hF := lm_brt hF c1
    refine lm_iconst C (v := (0 : Int32)) dX7_keeps_17 (by decide) rfl ?_
    refine lm_istore C (lv' := [(0, .ref (a 0)), (1, .int x1), (2, .int x2), (3, .int (0 : Int32)), (4, .int (0 : Int32))]) dX7_keeps_18 (by decide) rfl [1, 2, 3, 4, 0] rfl rfl ?_
    exact loop_20 1000 σ x1 x2 (0 : Int32) (0 : Int32) hF
  · have hF := lm_brf hF c1
    refine lm_aload_n C dX7_keeps_12 rfl 0 rfl rfl ?_
    obtain ⟨r37, σ36, qσ36, hF⟩ := lm_b2e hF
    refine lm_callV C (n := 0) (ci := 7) (w' := (mdW z a σ36)) hA (m_X7_throwsAll D z zo l a σ  r37 σ36 qσ36) gX7_keeps_X7_throwsAll rfl (by decide +kernel) ⟨Nat.le_of_ble_eq_true rfl, Nat.le_of_ble_eq_true rfl⟩ ⟨Nat.le_of_ble_eq_true rfl, Nat.le_of_ble_eq_true rfl⟩ 0 rfl rfl lm_pr lm_pr' rfl rfl (Nat.le_of_ble_eq_true rfl) dX7_keeps_13 (st' := [.int r37]) rfl rfl ?_
    refine lm_istore_n C (lv' := [(0, .ref (a 0)), (1, .int x1), (2, .int x2), (3, .int r37)]) dX7_keeps_16 rfl (by decide) rfl [1, 2, 3, 0] rfl rfl ?_
    refine lm_iconst C (v := (0 : Int32)) dX7_keeps_17 (by decide) rfl ?_
    refine lm_istore C (lv' := [(0, .ref (a 0)), (1, .int x1), (2, .int x2), (3, .int r37), (4, .int (0 : Int32))]) dX7_keeps_18 (by decide) rfl [1, 2, 3, 4, 0] rfl rfl ?_
    exact loop_20 1000 σ36 x1 x2 r37 (0 : Int32) hF
