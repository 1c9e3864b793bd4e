def F_X7_fault_L23 : Nat → Hp → Int32 → Int32 → Option (Int32 × (Hp))
  | 0, _, _, _ => none
  | n + 1, σx, x1, x2 =>
    lm_br (x2 = 0)
     (lm_br (¬ (σx 0 11) = (σx 0 8))
      (some ((σx 0 11), σx))
      (some ((-4 : Int32), σx)))
     (lm_br (¬ x1 = 0)
      (lm_b2 (F_X7_deed σx) fun r9 σ8 =>
      lm_br (¬ r9 = 0)
       (lm_lt (lm_u σ8 0 12 ((σ8 0 12) + (1 : Int32))) fun σ11 =>
       lm_b2 (F_X7_sign σ11 (59 : Int32)) fun r14 σ13 =>
       F_X7_fault_L23 n σ13 x1 r14)
       (some ((σ8 0 11), σ8)))
      (lm_b2 (F_X7_readsRow σx) fun r16 σ15 =>
      lm_br (r16 = 0)
       (some ((σ15 0 11), σ15))
       (lm_lt (lm_u σ15 0 12 ((σ15 0 12) + (1 : Int32))) fun σ18 =>
       lm_b2 (F_X7_sign σ18 (44 : Int32)) fun r21 σ20 =>
       F_X7_fault_L23 n σ20 x1 r21)))
def F_X7_fault (σ : Hp) (x1 : Int32) : Option (Int32 × (Hp)) :=
  lm_bd (F_X7_in x1 (0 : Int32) (1 : Int32)) fun r1 =>
  lm_br (¬ r1 = 0)
   (lm_lt (lm_u σ 0 11 (0 : Int32)) fun σ3 =>
   lm_lt (lm_u σ3 0 12 (0 : Int32)) fun σ4 =>
   F_X7_fault_L23 1000 σ4 x1 (1 : Int32))
   (some ((-1 : Int32), σ))
theorem in7_X7_fault : ∀ w ∈ u_ws RX7 TX7 14, w ∈ wsX7_fault := by decide +kernel
theorem fl125_X7_fault : Cond.fieldLink RX7 125 "LoopMemoModel" "spot" "I" ∈ wsX7_fault := by decide +kernel
theorem fl122_X7_fault : Cond.fieldLink RX7 122 "LoopMemoModel" "typed" "I" ∈ wsX7_fault := by decide +kernel
theorem fl131_X7_fault : Cond.fieldLink RX7 131 "LoopMemoModel" "many" "I" ∈ wsX7_fault := by decide +kernel
set_option maxRecDepth 100000 in
set_option maxHeartbeats 4000000 in
theorem m_X7_fault (D : va_G) (z zo : ClassId) (l : Launch) (a : Nat → Nat) (σ : Hp) (x1 : Int32) (r : Int32) (σ' : Hp) (hF : F_X7_fault σ x1 = some (r, σ')) : lm_C D z zo l yX7_fault wsX7_fault 5 109 [.ref (a 0), .int x1] (mdW z a σ) (some (.int r)) (mdW z a σ') := by
  refine lm_C.of (by decide) rfl (Nat.le_of_ble_eq_true rfl) (own := RX7) rfl ?_
  intro p e s m_ args below meth c C hr hk hA
  have loop_23 : ∀ (n : Nat) (σx : Hp) (x1 : Int32) (x2 : Int32), F_X7_fault_L23 n σx x1 x2 = some (r, σ') → lm_St p l e ({ frames := 5, cells := 0, slots := 0, locals := 109 }) s m_ args below meth c D (va_A (mdW z a σ) s.heap.size) 3 0 0 (lm_End below D (some (.int r)) (mdW z a σ) (mdW z a σ') args s) false (mdW z a σx) 23 [(0, .ref (a 0)), (1, .int x1), (2, .int x2)] [] := by
    intro n
    induction n with
    | zero => intro σx x1 x2 hF; cases (show (none : Option _) = some _ from hF)
    | succ n ih =>
      intro σx x1 x2 hF
      rw [F_X7_fault_L23] at hF
      refine lm_iload_n C dX7_fault_23 rfl 2 rfl rfl ?_
      refine lm_if_eq C (tgt := 82) dX7_fault_24 (by decide) rfl (fun c5 => ?_) (fun c5 => ?_)
      · have hF := lm_brt hF c5
        refine lm_aload_n C dX7_fault_82 rfl 0 rfl rfl ?_
        refine lm_getf C (T := TX7) (N := 14) (v := .int (σx 0 11)) in7_X7_fault 0 rfl rfl 11 (by decide) fl125_X7_fault rfl rfl dX7_fault_83 rfl ?_
        refine lm_aload_n C dX7_fault_86 rfl 0 rfl rfl ?_
        refine lm_getf C (T := TX7) (N := 14) (v := .int (σx 0 8)) in7_X7_fault 0 rfl rfl 8 (by decide) fl122_X7_fault rfl rfl dX7_fault_87 rfl ?_
        refine lm_icmp_ne C (tgt := 98) dX7_fault_90 (by decide) rfl (fun c6 => ?_) (fun c6 => ?_)
        · have hF := lm_brt hF c6
          refine lm_aload_n C dX7_fault_98 rfl 0 rfl rfl ?_
          refine lm_getf C (T := TX7) (N := 14) (v := .int (σx 0 11)) in7_X7_fault 0 rfl rfl 11 (by decide) fl125_X7_fault rfl rfl dX7_fault_99 rfl ?_
          cases hF
          exact lm_iret C hr hk rfl rfl dX7_fault_102
        · have hF := lm_brf hF c6
          refine lm_bipush C (v := (-4 : Int32)) dX7_fault_93 (by decide) rfl ?_
          refine lm_goto C (tgt := 102) dX7_fault_95 (by decide) ?_
          cases hF
          exact lm_iret C hr hk rfl rfl dX7_fault_102
      · have hF := lm_brf hF c5
        refine lm_iload_n C dX7_fault_27 rfl 1 rfl rfl ?_
        refine lm_if_ne C (tgt := 41) dX7_fault_28 (by decide) rfl (fun c7 => ?_) (fun c7 => ?_)
        · have hF := lm_brt hF c7
          refine lm_aload_n C dX7_fault_41 rfl 0 rfl rfl ?_
          obtain ⟨r9, σ8, qσ8, hF⟩ := lm_b2e hF
          refine lm_callV C (n := 0) (ci := 7) (w' := (mdW z a σ8)) hA (m_X7_deed D z zo l a σx  r9 σ8 qσ8) gX7_fault_X7_deed rfl (by decide +kernel) ⟨Nat.le_of_ble_eq_true rfl, Nat.le_of_ble_eq_true rfl⟩ ⟨Nat.le_of_ble_eq_true rfl, Nat.le_of_ble_eq_true rfl⟩ 0 rfl rfl lm_pr lm_pr' rfl rfl (Nat.le_of_ble_eq_true rfl) dX7_fault_42 (st' := [.int r9]) rfl rfl ?_
          refine lm_if_ne C (tgt := 53) dX7_fault_45 (by decide) rfl (fun c10 => ?_) (fun c10 => ?_)
          · have hF := lm_brt hF c10
            refine lm_aload_n C dX7_fault_53 rfl 0 rfl rfl ?_
            refine lm_dup C dX7_fault_54 rfl rfl ?_
            refine lm_getf C (T := TX7) (N := 14) (v := .int (σ8 0 12)) in7_X7_fault 0 rfl rfl 12 (by decide) fl131_X7_fault rfl rfl dX7_fault_55 rfl ?_
            refine lm_iconst C (v := (1 : Int32)) dX7_fault_58 (by decide) rfl ?_
            refine lm_iadd C dX7_fault_59 rfl rfl ?_
            obtain ⟨σ11, eσ11, hF⟩ := lm_lte hF
            refine lm_putf C (T := TX7) (N := 14) (ty := .int) (v := .int ((σ8 0 12) + (1 : Int32))) (w' := (mdW z a σ11)) in7_X7_fault tyX7 tyX7_ok nmX7 0 rfl rfl 12 (by decide) fl131_X7_fault rfl rfl rfl rfl rfl (Nat.le_of_ble_eq_true rfl) dX7_fault_60 (by rw [← eσ11]; rfl) rfl ?_
            refine lm_aload_n C dX7_fault_63 rfl 0 rfl rfl ?_
            refine lm_iload_n C dX7_fault_64 rfl 1 rfl rfl ?_
            refine lm_if_ne C (tgt := 73) dX7_fault_65 (by decide) rfl (fun c12 => ?_) (fun c12 => ?_)
            · refine lm_bipush C (v := (59 : Int32)) dX7_fault_73 (by decide) rfl ?_
              obtain ⟨r14, σ13, qσ13, hF⟩ := lm_b2e hF
              refine lm_callV C (n := 1) (ci := 7) (w' := (mdW z a σ13)) hA (m_X7_sign D z zo l a σ11 (59 : Int32) r14 σ13 qσ13) gX7_fault_X7_sign rfl (by decide +kernel) ⟨Nat.le_of_ble_eq_true rfl, Nat.le_of_ble_eq_true rfl⟩ ⟨Nat.le_of_ble_eq_true rfl, Nat.le_of_ble_eq_true rfl⟩ 0 rfl rfl lm_pr lm_pr' rfl rfl (Nat.le_of_ble_eq_true rfl) dX7_fault_75 (st' := [.int r14]) rfl rfl ?_
              refine lm_istore_n C (lv' := [(0, .ref (a 0)), (1, .int x1), (2, .int r14)]) dX7_fault_78 rfl (by decide) rfl [1, 2, 0] rfl rfl ?_
              refine lm_goto C (tgt := 23) dX7_fault_79 (by decide) ?_
              exact ih σ13 x1 r14 hF
            · exact (by simp_all : False).elim
          · have hF := lm_brf hF c10
            refine lm_aload_n C dX7_fault_48 rfl 0 rfl rfl ?_
            refine lm_getf C (T := TX7) (N := 14) (v := .int (σ8 0 11)) in7_X7_fault 0 rfl rfl 11 (by decide) fl125_X7_fault rfl rfl dX7_fault_49 rfl ?_
            cases hF
            exact lm_iret C hr hk rfl rfl dX7_fault_52
        · have hF := lm_brf hF c7
          refine lm_aload_n C dX7_fault_31 rfl 0 rfl rfl ?_
          obtain ⟨r16, σ15, qσ15, hF⟩ := lm_b2e hF
          refine lm_callV C (n := 0) (ci := 7) (w' := (mdW z a σ15)) hA (m_X7_readsRow D z zo l a σx  r16 σ15 qσ15) gX7_fault_X7_readsRow rfl (by decide +kernel) ⟨Nat.le_of_ble_eq_true rfl, Nat.le_of_ble_eq_true rfl⟩ ⟨Nat.le_of_ble_eq_true rfl, Nat.le_of_ble_eq_true rfl⟩ 0 rfl rfl lm_pr lm_pr' rfl rfl (Nat.le_of_ble_eq_true rfl) dX7_fault_32 (st' := [.int r16]) rfl rfl ?_
          refine lm_if_eq C (tgt := 48) dX7_fault_35 (by decide) rfl (fun c17 => ?_) (fun c17 => ?_)
          · have hF := lm_brt hF c17
            refine lm_aload_n C dX7_fault_48 rfl 0 rfl rfl ?_
            refine lm_getf C (T := TX7) (N := 14) (v := .int (σ15 0 11)) in7_X7_fault 0 rfl rfl 11 (by decide) fl125_X7_fault rfl rfl dX7_fault_49 rfl ?_
            cases hF
            exact lm_iret C hr hk rfl rfl dX7_fault_52
          · have hF := lm_brf hF c17
            refine lm_goto C (tgt := 53) dX7_fault_38 (by decide) ?_
            refine lm_aload_n C dX7_fault_53 rfl 0 rfl rfl ?_
            refine lm_dup C dX7_fault_54 rfl rfl ?_
            refine lm_getf C (T := TX7) (N := 14) (v := .int (σ15 0 12)) in7_X7_fault 0 rfl rfl 12 (by decide) fl131_X7_fault rfl rfl dX7_fault_55 rfl ?_
            refine lm_iconst C (v := (1 : Int32)) dX7_fault_58 (by decide) rfl ?_
            refine lm_iadd C dX7_fault_59 rfl rfl ?_
            obtain ⟨σ18, eσ18, hF⟩ := lm_lte hF
            refine lm_putf C (T := TX7) (N := 14) (ty := .int) (v := .int ((σ15 0 12) + (1 : Int32))) (w' := (mdW z a σ18)) in7_X7_fault tyX7 tyX7_ok nmX7 0 rfl rfl 12 (by decide) fl131_X7_fault rfl rfl rfl rfl rfl (Nat.le_of_ble_eq_true rfl) dX7_fault_60 (by rw [← eσ18]; rfl) rfl ?_
            refine lm_aload_n C dX7_fault_63 rfl 0 rfl rfl ?_
            refine lm_iload_n C dX7_fault_64 rfl 1 rfl rfl ?_
            refine lm_if_ne C (tgt := 73) dX7_fault_65 (by decide) rfl (fun c19 => ?_) (fun c19 => ?_)
            · exact (by simp_all : False).elim
            · refine lm_bipush C (v := (44 : Int32)) dX7_fault_68 (by decide) rfl ?_
              refine lm_goto C (tgt := 75) dX7_fault_70 (by decide) ?_
              obtain ⟨r21, σ20, qσ20, hF⟩ := lm_b2e hF
              refine lm_callV C (n := 1) (ci := 7) (w' := (mdW z a σ20)) hA (m_X7_sign D z zo l a σ18 (44 : Int32) r21 σ20 qσ20) gX7_fault_X7_sign rfl (by decide +kernel) ⟨Nat.le_of_ble_eq_true rfl, Nat.le_of_ble_eq_true rfl⟩ ⟨Nat.le_of_ble_eq_true rfl, Nat.le_of_ble_eq_true rfl⟩ 0 rfl rfl lm_pr lm_pr' rfl rfl (Nat.le_of_ble_eq_true rfl) dX7_fault_75 (st' := [.int r21]) rfl rfl ?_
              refine lm_istore_n C (lv' := [(0, .ref (a 0)), (1, .int x1), (2, .int r21)]) dX7_fault_78 rfl (by decide) rfl [1, 2, 0] rfl rfl ?_
              refine lm_goto C (tgt := 23) dX7_fault_79 (by decide) ?_
              exact ih σ20 x1 r21 hF
  show lm_St p l e ({ frames := 5, cells := 0, slots := 0, locals := 109 }) s m_ args below meth c D (va_A (mdW z a σ) s.heap.size) 3 0 0 (lm_End below D (some (.int r)) (mdW z a σ) (mdW z a σ') args s) false (mdW z a σ) 0 [(0, .ref (a 0)), (1, .int x1)] []
  rw [F_X7_fault] at hF
  refine lm_iload_n C dX7_fault_0 rfl 1 rfl rfl ?_
  refine lm_iconst C (v := (0 : Int32)) dX7_fault_1 (by decide) rfl ?_
  refine lm_iconst C (v := (1 : Int32)) dX7_fault_2 (by decide) rfl ?_
  obtain ⟨r1, qr1, hF⟩ := lm_bde hF
  refine lm_callSR C (n := 3) (m_X7_in D z zo l   x1 (0 : Int32) (1 : Int32) r1 qr1) gX7_fault_X7_in rfl (by decide +kernel) ⟨Nat.le_of_ble_eq_true rfl, Nat.le_of_ble_eq_true rfl⟩ ⟨Nat.le_of_ble_eq_true rfl, Nat.le_of_ble_eq_true rfl⟩ (fun _ h => absurd h List.not_mem_nil) rfl rfl (Nat.le_of_ble_eq_true rfl) dX7_fault_3 (st' := [.int r1]) rfl rfl ?_
  refine lm_if_ne C (tgt := 11) dX7_fault_6 (by decide) rfl (fun c2 => ?_) (fun c2 => ?_)
  · have hF := lm_brt hF c2
    refine lm_aload_n C dX7_fault_11 rfl 0 rfl rfl ?_
    refine lm_iconst C (v := (0 : Int32)) dX7_fault_12 (by decide) rfl ?_
    obtain ⟨σ3, eσ3, hF⟩ := lm_lte hF
    refine lm_putf C (T := TX7) (N := 14) (ty := .int) (v := .int (0 : Int32)) (w' := (mdW z a σ3)) in7_X7_fault tyX7 tyX7_ok nmX7 0 rfl rfl 11 (by decide) fl125_X7_fault rfl rfl rfl rfl rfl (Nat.le_of_ble_eq_true rfl) dX7_fault_13 (by rw [← eσ3]; rfl) rfl ?_
    refine lm_aload_n C dX7_fault_16 rfl 0 rfl rfl ?_
    refine lm_iconst C (v := (0 : Int32)) dX7_fault_17 (by decide) rfl ?_
    obtain ⟨σ4, eσ4, hF⟩ := lm_lte hF
    refine lm_putf C (T := TX7) (N := 14) (ty := .int) (v := .int (0 : Int32)) (w' := (mdW z a σ4)) in7_X7_fault tyX7 tyX7_ok nmX7 0 rfl rfl 12 (by decide) fl131_X7_fault rfl rfl rfl rfl rfl (Nat.le_of_ble_eq_true rfl) dX7_fault_18 (by rw [← eσ4]; rfl) rfl ?_
    refine lm_iconst C (v := (1 : Int32)) dX7_fault_21 (by decide) rfl ?_
    refine lm_istore_n C (lv' := [(0, .ref (a 0)), (1, .int x1), (2, .int (1 : Int32))]) dX7_fault_22 rfl (by decide) rfl [1, 2, 0] rfl rfl ?_
    exact loop_23 1000 σ4 x1 (1 : Int32) hF
  · have hF := lm_brf hF c2
    refine lm_iconst C (v := (-1 : Int32)) dX7_fault_9 (by decide) rfl ?_
    cases hF
    exact lm_iret C hr hk rfl rfl dX7_fault_10
def F_X7_fill_L52 : Nat → Hp → Int32 → Int32 → Int32 → Option (Int32 × (Hp))
  | 0, _, _, _, _ => none
  | n + 1, σx, x1, x3, x4 =>
    lm_br ((σx 0 12) ≤ x4)
     (lm_lt (lm_u σx 0 8 (0 : Int32)) fun σ8 =>
     some ((x3 + (1 : Int32)), σ8))
     (lm_gi (((4 : Int32) * x4) + (1 : Int32)) 124
     (lm_gi (((4 : Int32) * x4) + (2 : Int32)) 124
     (lm_b2 (F_X7_adds σx x1 (σx 7 ((((4 : Int32) * x4) + (1 : Int32))).toNatClampNeg) (σx 7 ((((4 : Int32) * x4) + (2 : Int32))).toNatClampNeg)) fun r12 σ11 =>
     F_X7_fill_L52 n σ11 x1 r12 (x4 + (1 : Int32)))))
def F_X7_fill (σ : Hp) (x1 : Int32) : Option (Int32 × (Hp)) :=
  lm_b2 (F_X7_fault σ (0 : Int32)) fun r2 σ1 =>
  lm_br (r2 = (-4 : Int32))
   (lm_br (x1 = 0)
    (lm_br (((σ1 1 6) + (σ1 0 12)) ≤ (20 : Int32))
     (lm_bd (F_X7_changes σ1) fun σ6 =>
     F_X7_fill_L52 1000 σ6 x1 (0 : Int32) (0 : Int32))
     (some ((-3 : Int32), σ1)))
    (lm_br (((σ1 1 5) + (σ1 0 12)) ≤ (20 : Int32))
     (lm_bd (F_X7_changes σ1) fun σ14 =>
     F_X7_fill_L52 1000 σ14 x1 (0 : Int32) (0 : Int32))
     (some ((-3 : Int32), σ1))))
   (some ((-2 : Int32), σ1))
theorem in7_X7_fill : ∀ w ∈ u_ws RX7 TX7 14, w ∈ wsX7_fill := by decide +kernel
theorem fl7_X7_fill : Cond.fieldLink RX7 7 "LoopMemoModel" "s" "[I" ∈ wsX7_fill := by decide +kernel
theorem fl131_X7_fill : Cond.fieldLink RX7 131 "LoopMemoModel" "many" "I" ∈ wsX7_fill := by decide +kernel
theorem fl122_X7_fill : Cond.fieldLink RX7 122 "LoopMemoModel" "typed" "I" ∈ wsX7_fill := by decide +kernel
theorem fl28_X7_fill : Cond.fieldLink RX7 28 "LoopMemoModel" "read" "[I" ∈ wsX7_fill := by decide +kernel
set_option maxRecDepth 100000 in
set_option maxHeartbeats 4000000 in
theorem m_X7_fill (D : va_G) (z zo : ClassId) (l : Launch) (a : Nat → Nat) (σ : Hp) (x1 : Int32) (r : Int32) (σ' : Hp) (hF : F_X7_fill σ x1 = some (r, σ')) : lm_C D z zo l yX7_fill wsX7_fill 6 131 [.ref (a 0), .int x1] (mdW z a σ) (some (.int r)) (mdW z a σ') := by
  refine lm_C.of (by decide) rfl (Nat.le_of_ble_eq_true rfl) (own := RX7) rfl ?_
  intro p e s m_ args below meth c C hr hk hA
  have loop_52 : ∀ (n : Nat) (σx : Hp) (x1 : Int32) (x3 : Int32) (x4 : Int32), F_X7_fill_L52 n σx x1 x3 x4 = some (r, σ') → lm_St p l e ({ frames := 6, cells := 0, slots := 0, locals := 131 }) s m_ args below meth c D (va_A (mdW z a σ) s.heap.size) 5 0 0 (lm_End below D (some (.int r)) (mdW z a σ) (mdW z a σ') args s) false (mdW z a σx) 52 [(0, .ref (a 0)), (1, .int x1), (3, .int x3), (4, .int x4)] [] := by
    intro n
    induction n with
    | zero => intro σx x1 x3 x4 hF; cases (show (none : Option _) = some _ from hF)
    | succ n ih =>
      intro σx x1 x3 x4 hF
      rw [F_X7_fill_L52] at hF
      refine lm_iload C dX7_fill_52 3 rfl rfl ?_
      refine lm_aload_n C dX7_fill_54 rfl 0 rfl rfl ?_
      refine lm_getf C (T := TX7) (N := 14) (v := .int (σx 0 12)) in7_X7_fill 0 rfl rfl 12 (by decide) fl131_X7_fill rfl rfl dX7_fill_55 rfl ?_
      refine lm_icmp_ge C (tgt := 95) dX7_fill_58 (by decide) rfl (fun c7 => ?_) (fun c7 => ?_)
      · have hF := lm_brt hF c7
        refine lm_aload_n C dX7_fill_95 rfl 0 rfl rfl ?_
        refine lm_iconst C (v := (0 : Int32)) dX7_fill_96 (by decide) rfl ?_
        obtain ⟨σ8, eσ8, hF⟩ := lm_lte hF
        refine lm_putf C (T := TX7) (N := 14) (ty := .int) (v := .int (0 : Int32)) (w' := (mdW z a σ8)) in7_X7_fill tyX7 tyX7_ok nmX7 0 rfl rfl 8 (by decide) fl122_X7_fill rfl rfl rfl rfl rfl (Nat.le_of_ble_eq_true rfl) dX7_fill_97 (by rw [← eσ8]; rfl) rfl ?_
        refine lm_iload_n C dX7_fill_100 rfl 2 rfl rfl ?_
        refine lm_iconst C (v := (1 : Int32)) dX7_fill_101 (by decide) rfl ?_
        refine lm_iadd C dX7_fill_102 rfl rfl ?_
        cases hF
        exact lm_iret C hr hk rfl rfl dX7_fill_103
      · have hF := lm_brf hF c7
        refine lm_aload_n C dX7_fill_61 rfl 0 rfl rfl ?_
        refine lm_iload_n C dX7_fill_62 rfl 1 rfl rfl ?_
        refine lm_aload_n C dX7_fill_63 rfl 0 rfl rfl ?_
        refine lm_getf C (T := TX7) (N := 14) (v := .ref (a 7)) in7_X7_fill 0 rfl rfl 13 (by decide) fl28_X7_fill rfl rfl dX7_fill_64 rfl ?_
        refine lm_iconst C (v := (4 : Int32)) dX7_fill_67 (by decide) rfl ?_
        refine lm_iload C dX7_fill_68 3 rfl rfl ?_
        refine lm_imul C dX7_fill_70 rfl rfl ?_
        refine lm_iconst C (v := (1 : Int32)) dX7_fill_71 (by decide) rfl ?_
        refine lm_iadd C dX7_fill_72 rfl rfl ?_
        obtain ⟨b9, hF⟩ := lm_gie hF
        refine lm_iald C (v := (σx 7 ((((4 : Int32) * x4) + (1 : Int32))).toNatClampNeg)) 7 rfl b9 rfl dX7_fill_73 rfl ?_
        refine lm_aload_n C dX7_fill_74 rfl 0 rfl rfl ?_
        refine lm_getf C (T := TX7) (N := 14) (v := .ref (a 7)) in7_X7_fill 0 rfl rfl 13 (by decide) fl28_X7_fill rfl rfl dX7_fill_75 rfl ?_
        refine lm_iconst C (v := (4 : Int32)) dX7_fill_78 (by decide) rfl ?_
        refine lm_iload C dX7_fill_79 3 rfl rfl ?_
        refine lm_imul C dX7_fill_81 rfl rfl ?_
        refine lm_iconst C (v := (2 : Int32)) dX7_fill_82 (by decide) rfl ?_
        refine lm_iadd C dX7_fill_83 rfl rfl ?_
        obtain ⟨b10, hF⟩ := lm_gie hF
        refine lm_iald C (v := (σx 7 ((((4 : Int32) * x4) + (2 : Int32))).toNatClampNeg)) 7 rfl b10 rfl dX7_fill_84 rfl ?_
        obtain ⟨r12, σ11, qσ11, hF⟩ := lm_b2e hF
        refine lm_callV C (n := 3) (ci := 7) (w' := (mdW z a σ11)) hA (m_X7_adds D z zo l a σx x1 (σx 7 ((((4 : Int32) * x4) + (1 : Int32))).toNatClampNeg) (σx 7 ((((4 : Int32) * x4) + (2 : Int32))).toNatClampNeg) r12 σ11 qσ11) gX7_fill_X7_adds rfl (by decide +kernel) ⟨Nat.le_of_ble_eq_true rfl, Nat.le_of_ble_eq_true rfl⟩ ⟨Nat.le_of_ble_eq_true rfl, Nat.le_of_ble_eq_true rfl⟩ 0 rfl rfl lm_pr lm_pr' rfl rfl (Nat.le_of_ble_eq_true rfl) dX7_fill_85 (st' := [.int r12]) rfl rfl ?_
        refine lm_istore_n C (lv' := [(0, .ref (a 0)), (1, .int x1), (3, .int r12), (4, .int x4)]) dX7_fill_88 rfl (by decide) rfl [1, 2, 0, 3] rfl rfl ?_
        refine lm_iinc C (lv' := [(0, .ref (a 0)), (1, .int x1), (3, .int r12), (4, .int (x4 + (1 : Int32)))]) (x4 + (1 : Int32)) dX7_fill_89 3 rfl rfl (by decide) rfl [1, 2, 3, 0] rfl rfl ?_
        refine lm_goto C (tgt := 52) dX7_fill_92 (by decide) ?_
        exact ih σ11 x1 r12 (x4 + (1 : Int32)) hF
  show lm_St p l e ({ frames := 6, cells := 0, slots := 0, locals := 131 }) s m_ args below meth c D (va_A (mdW z a σ) s.heap.size) 5 0 0 (lm_End below D (some (.int r)) (mdW z a σ) (mdW z a σ') args s) false (mdW z a σ) 0 [(0, .ref (a 0)), (1, .int x1)] []
  rw [F_X7_fill] at hF
  refine lm_aload_n C dX7_fill_0 rfl 0 rfl rfl ?_
  refine lm_iconst C (v := (0 : Int32)) dX7_fill_1 (by decide) rfl ?_
  obtain ⟨r2, σ1, qσ1, hF⟩ := lm_b2e hF
  refine lm_callV C (n := 1) (ci := 7) (w' := (mdW z a σ1)) hA (m_X7_fault D z zo l a σ (0 : Int32) r2 σ1 qσ1) gX7_fill_X7_fault rfl (by decide +kernel) ⟨Nat.le_of_ble_eq_true rfl, Nat.le_of_ble_eq_true rfl⟩ ⟨Nat.le_of_ble_eq_true rfl, Nat.le_of_ble_eq_true rfl⟩ 0 rfl rfl lm_pr lm_pr' rfl rfl (Nat.le_of_ble_eq_true rfl) dX7_fill_2 (st' := [.int r2]) rfl rfl ?_
  refine lm_bipush C (v := (-4 : Int32)) dX7_fill_5 (by decide) rfl ?_
  refine lm_icmp_eq C (tgt := 13) dX7_fill_7 (by decide) rfl (fun c3 => ?_) (fun c3 => ?_)
  · have hF := lm_brt hF c3
    refine lm_iload_n C dX7_fill_13 rfl 1 rfl rfl ?_
    refine lm_if_eq C (tgt := 21) dX7_fill_14 (by decide) rfl (fun c4 => ?_) (fun c4 => ?_)
    · have hF := lm_brt hF c4
      refine lm_bipush C (v := (6 : Int32)) dX7_fill_21 (by decide) rfl ?_
      refine lm_istore_n C (lv' := [(0, .ref (a 0)), (1, .int x1), (2, .int (6 : Int32))]) dX7_fill_23 rfl (by decide) rfl [1, 2, 0] rfl rfl ?_
      refine lm_aload_n C dX7_fill_24 rfl 0 rfl rfl ?_
      refine lm_getf C (T := TX7) (N := 14) (v := .ref (a 1)) in7_X7_fill 0 rfl rfl 0 (by decide) fl7_X7_fill rfl rfl dX7_fill_25 rfl ?_
      refine lm_iload_n C dX7_fill_28 rfl 2 rfl rfl ?_
      refine lm_iald C (v := (σ1 1 6)) 1 rfl (by unfold vp_in; decide) rfl dX7_fill_29 rfl ?_
      refine lm_aload_n C dX7_fill_30 rfl 0 rfl rfl ?_
      refine lm_getf C (T := TX7) (N := 14) (v := .int (σ1 0 12)) in7_X7_fill 0 rfl rfl 12 (by decide) fl131_X7_fill rfl rfl dX7_fill_31 rfl ?_
      refine lm_iadd C dX7_fill_34 rfl rfl ?_
      refine lm_bipush C (v := (20 : Int32)) dX7_fill_35 (by decide) rfl ?_
      refine lm_icmp_le C (tgt := 43) dX7_fill_37 (by decide) rfl (fun c5 => ?_) (fun c5 => ?_)
      · have hF := lm_brt hF c5
        refine lm_aload_n C dX7_fill_43 rfl 0 rfl rfl ?_
        obtain ⟨σ6, qσ6, hF⟩ := lm_bde hF
        refine lm_callV C (n := 0) (ci := 7) (w' := (mdW z a σ6)) hA (m_X7_changes D z zo l a σ1  σ6 qσ6) gX7_fill_X7_changes rfl (by decide +kernel) ⟨Nat.le_of_ble_eq_true rfl, Nat.le_of_ble_eq_true rfl⟩ ⟨Nat.le_of_ble_eq_true rfl, Nat.le_of_ble_eq_true rfl⟩ 0 rfl rfl lm_pr lm_pr' rfl rfl (Nat.le_of_ble_eq_true rfl) dX7_fill_44 (st' := []) rfl rfl ?_
        refine lm_iconst C (v := (0 : Int32)) dX7_fill_47 (by decide) rfl ?_
        refine lm_istore_n C (lv' := [(0, .ref (a 0)), (1, .int x1), (2, .int (6 : Int32)), (3, .int (0 : Int32))]) dX7_fill_48 rfl (by decide) rfl [1, 2, 3, 0] rfl rfl ?_
        refine lm_iconst C (v := (0 : Int32)) dX7_fill_49 (by decide) rfl ?_
        refine lm_istore C (lv' := [(0, .ref (a 0)), (1, .int x1), (2, .int (6 : Int32)), (3, .int (0 : Int32)), (4, .int (0 : Int32))]) dX7_fill_50 (by decide) rfl [1, 2, 3, 4, 0] rfl rfl ?_
        refine lm_lvsub (lv' := [(0, .ref (a 0)), (1, .int x1), (3, .int (0 : Int32)), (4, .int (0 : Int32))]) [0, 1, 3, 4] rfl ?_
        exact loop_52 1000 σ6 x1 (0 : Int32) (0 : Int32) hF
      · have hF := lm_brf hF c5
        refine lm_bipush C (v := (-3 : Int32)) dX7_fill_40 (by decide) rfl ?_
        cases hF
        exact lm_iret C hr hk rfl rfl dX7_fill_42
    · have hF := lm_brf hF c4
      refine lm_iconst C (v := (5 : Int32)) dX7_fill_17 (by decide) rfl ?_
      refine lm_goto C (tgt := 23) dX7_fill_18 (by decide) ?_
      refine lm_istore_n C (lv' := [(0, .ref (a 0)), (1, .int x1), (2, .int (5 : Int32))]) dX7_fill_23 rfl (by decide) rfl [1, 2, 0] rfl rfl ?_
      refine lm_aload_n C dX7_fill_24 rfl 0 rfl rfl ?_
      refine lm_getf C (T := TX7) (N := 14) (v := .ref (a 1)) in7_X7_fill 0 rfl rfl 0 (by decide) fl7_X7_fill rfl rfl dX7_fill_25 rfl ?_
      refine lm_iload_n C dX7_fill_28 rfl 2 rfl rfl ?_
      refine lm_iald C (v := (σ1 1 5)) 1 rfl (by unfold vp_in; decide) rfl dX7_fill_29 rfl ?_
      refine lm_aload_n C dX7_fill_30 rfl 0 rfl rfl ?_
      refine lm_getf C (T := TX7) (N := 14) (v := .int (σ1 0 12)) in7_X7_fill 0 rfl rfl 12 (by decide) fl131_X7_fill rfl rfl dX7_fill_31 rfl ?_
      refine lm_iadd C dX7_fill_34 rfl rfl ?_
      refine lm_bipush C (v := (20 : Int32)) dX7_fill_35 (by decide) rfl ?_
      refine lm_icmp_le C (tgt := 43) dX7_fill_37 (by decide) rfl (fun c13 => ?_) (fun c13 => ?_)
      · have hF := lm_brt hF c13
        refine lm_aload_n C dX7_fill_43 rfl 0 rfl rfl ?_
        obtain ⟨σ14, qσ14, hF⟩ := lm_bde hF
        refine lm_callV C (n := 0) (ci := 7) (w' := (mdW z a σ14)) hA (m_X7_changes D z zo l a σ1  σ14 qσ14) gX7_fill_X7_changes rfl (by decide +kernel) ⟨Nat.le_of_ble_eq_true rfl, Nat.le_of_ble_eq_true rfl⟩ ⟨Nat.le_of_ble_eq_true rfl, Nat.le_of_ble_eq_true rfl⟩ 0 rfl rfl lm_pr lm_pr' rfl rfl (Nat.le_of_ble_eq_true rfl) dX7_fill_44 (st' := []) rfl rfl ?_
        refine lm_iconst C (v := (0 : Int32)) dX7_fill_47 (by decide) rfl ?_
        refine lm_istore_n C (lv' := [(0, .ref (a 0)), (1, .int x1), (2, .int (5 : Int32)), (3, .int (0 : Int32))]) dX7_fill_48 rfl (by decide) rfl [1, 2, 3, 0] rfl rfl ?_
        refine lm_iconst C (v := (0 : Int32)) dX7_fill_49 (by decide) rfl ?_
        refine lm_istore C (lv' := [(0, .ref (a 0)), (1, .int x1), (2, .int (5 : Int32)), (3, .int (0 : Int32)), (4, .int (0 : Int32))]) dX7_fill_50 (by decide) rfl [1, 2, 3, 4, 0] rfl rfl ?_
        refine lm_lvsub (lv' := [(0, .ref (a 0)), (1, .int x1), (3, .int (0 : Int32)), (4, .int (0 : Int32))]) [0, 1, 3, 4] rfl ?_
        exact loop_52 1000 σ14 x1 (0 : Int32) (0 : Int32) hF
      · have hF := lm_brf hF c13
        refine lm_bipush C (v := (-3 : Int32)) dX7_fill_40 (by decide) rfl ?_
        cases hF
        exact lm_iret C hr hk rfl rfl dX7_fill_42
  · have hF := lm_brf hF c3
    refine lm_bipush C (v := (-2 : Int32)) dX7_fill_10 (by decide) rfl ?_
    cases hF
    exact lm_iret C hr hk rfl rfl dX7_fill_12
def F_X7_does (σ : Hp) (x1 : Int32) : Option (Int32 × (Hp)) :=
  lm_gi (((4 : Int32) * x1) + (1 : Int32)) 124
  (lm_lt (σ 7 ((((4 : Int32) * x1) + (1 : Int32))).toNatClampNeg) fun t2 =>
  lm_gi ((4 : Int32) * x1) 124
  (lm_br ((σ 7 (((4 : Int32) * x1)).toNatClampNeg) = (43 : Int32))
   (lm_gi (((4 : Int32) * x1) + (2 : Int32)) 124
   (lm_b2 (F_X7_add σ (1 : Int32) t2 (σ 7 ((((4 : Int32) * x1) + (2 : Int32))).toNatClampNeg)) fun r7 σ6 =>
   some (r7, σ6)))
   (lm_br ((σ 7 (((4 : Int32) * x1)).toNatClampNeg) = (45 : Int32))
    (lm_b2 (F_X7_drop σ (1 : Int32) t2) fun r10 σ9 =>
    some (r10, σ9))
    (lm_br ((σ 7 (((4 : Int32) * x1)).toNatClampNeg) = (115 : Int32))
     (lm_b2 (F_X7_step σ t2) fun r13 σ12 =>
     some (r13, σ12))
     (lm_b2 (F_X7_again σ) fun r15 σ14 =>
     some (r15, σ14))))))
theorem in7_X7_does : ∀ w ∈ u_ws RX7 TX7 14, w ∈ wsX7_does := by decide +kernel
theorem fl28_X7_does : Cond.fieldLink RX7 28 "LoopMemoModel" "read" "[I" ∈ wsX7_does := by decide +kernel
set_option maxRecDepth 100000 in
set_option maxHeartbeats 4000000 in
theorem m_X7_does (D : va_G) (z zo : ClassId) (l : Launch) (a : Nat → Nat) (σ : Hp) (x1 : Int32) (r : Int32) (σ' : Hp) (hF : F_X7_does σ x1 = some (r, σ')) : lm_C D z zo l yX7_does wsX7_does 9 199 [.ref (a 0), .int x1] (mdW z a σ) (some (.int r)) (mdW z a σ') := by
  refine lm_C.of (by decide) rfl (Nat.le_of_ble_eq_true rfl) (own := RX7) rfl ?_
  intro p e s m_ args below meth c C hr hk hA
  show lm_St p l e ({ frames := 9, cells := 0, slots := 0, locals := 199 }) s m_ args below meth c D (va_A (mdW z a σ) s.heap.size) 3 0 0 (lm_End below D (some (.int r)) (mdW z a σ) (mdW z a σ') args s) false (mdW z a σ) 0 [(0, .ref (a 0)), (1, .int x1)] []
  rw [F_X7_does] at hF
  refine lm_aload_n C dX7_does_0 rfl 0 rfl rfl ?_
  refine lm_getf C (T := TX7) (N := 14) (v := .ref (a 7)) in7_X7_does 0 rfl rfl 13 (by decide) fl28_X7_does rfl rfl dX7_does_1 rfl ?_
  refine lm_iconst C (v := (4 : Int32)) dX7_does_4 (by decide) rfl ?_
  refine lm_iload_n C dX7_does_5 rfl 1 rfl rfl ?_
  refine lm_imul C dX7_does_6 rfl rfl ?_
  refine lm_iconst C (v := (1 : Int32)) dX7_does_7 (by decide) rfl ?_
  refine lm_iadd C dX7_does_8 rfl rfl ?_
  obtain ⟨b1, hF⟩ := lm_gie hF
  refine lm_iald C (v := (σ 7 ((((4 : Int32) * x1) + (1 : Int32))).toNatClampNeg)) 7 rfl b1 rfl dX7_does_9 rfl ?_
  obtain ⟨t2, et2, hF⟩ := lm_lte hF
  rw [et2]
  refine lm_istore_n C (lv' := [(0, .ref (a 0)), (1, .int x1), (2, .int t2)]) dX7_does_10 rfl (by decide) rfl [1, 2, 0] rfl rfl ?_
  refine lm_aload_n C dX7_does_11 rfl 0 rfl rfl ?_
  refine lm_getf C (T := TX7) (N := 14) (v := .ref (a 7)) in7_X7_does 0 rfl rfl 13 (by decide) fl28_X7_does rfl rfl dX7_does_12 rfl ?_
  refine lm_iconst C (v := (4 : Int32)) dX7_does_15 (by decide) rfl ?_
  refine lm_iload_n C dX7_does_16 rfl 1 rfl rfl ?_
  refine lm_imul C dX7_does_17 rfl rfl ?_
  obtain ⟨b3, hF⟩ := lm_gie hF
  refine lm_iald C (v := (σ 7 (((4 : Int32) * x1)).toNatClampNeg)) 7 rfl b3 rfl dX7_does_18 rfl ?_
  rcases Classical.em ((σ 7 (((4 : Int32) * x1)).toNatClampNeg) = (43 : Int32)) with c4 | c4
  · have hF := lm_brt hF c4
    refine lm_lookup C (off := 39) (tgt := 58) dX7_does_19 (by decide) (by rw [c4]; decide) (by decide) ?_
    refine lm_aload_n C dX7_does_58 rfl 0 rfl rfl ?_
    refine lm_iconst C (v := (1 : Int32)) dX7_does_59 (by decide) rfl ?_
    refine lm_iload_n C dX7_does_60 rfl 2 rfl rfl ?_
    refine lm_aload_n C dX7_does_61 rfl 0 rfl rfl ?_
    refine lm_getf C (T := TX7) (N := 14) (v := .ref (a 7)) in7_X7_does 0 rfl rfl 13 (by decide) fl28_X7_does rfl rfl dX7_does_62 rfl ?_
    refine lm_iconst C (v := (4 : Int32)) dX7_does_65 (by decide) rfl ?_
    refine lm_iload_n C dX7_does_66 rfl 1 rfl rfl ?_
    refine lm_imul C dX7_does_67 rfl rfl ?_
    refine lm_iconst C (v := (2 : Int32)) dX7_does_68 (by decide) rfl ?_
    refine lm_iadd C dX7_does_69 rfl rfl ?_
    obtain ⟨b5, hF⟩ := lm_gie hF
    refine lm_iald C (v := (σ 7 ((((4 : Int32) * x1) + (2 : Int32))).toNatClampNeg)) 7 rfl b5 rfl dX7_does_70 rfl ?_
    obtain ⟨r7, σ6, qσ6, hF⟩ := lm_b2e hF
    refine lm_callV C (n := 3) (ci := 7) (w' := (mdW z a σ6)) hA (m_X7_add D z zo l a σ (1 : Int32) t2 (σ 7 ((((4 : Int32) * x1) + (2 : Int32))).toNatClampNeg) r7 σ6 qσ6) gX7_does_X7_add rfl (by decide +kernel) ⟨Nat.le_of_ble_eq_true rfl, Nat.le_of_ble_eq_true rfl⟩ ⟨Nat.le_of_ble_eq_true rfl, Nat.le_of_ble_eq_true rfl⟩ 0 rfl rfl lm_pr lm_pr' rfl rfl (Nat.le_of_ble_eq_true rfl) dX7_does_71 (st' := [.int r7]) rfl rfl ?_
    cases hF
    exact lm_iret C hr hk rfl rfl dX7_does_74
  · have hF := lm_brf hF c4
    rcases Classical.em ((σ 7 (((4 : Int32) * x1)).toNatClampNeg) = (45 : Int32)) with c8 | c8
    · have hF := lm_brt hF c8
      refine lm_lookup C (off := 56) (tgt := 75) dX7_does_19 (by decide) (by rw [c8]; decide) (by decide) ?_
      refine lm_aload_n C dX7_does_75 rfl 0 rfl rfl ?_
      refine lm_iconst C (v := (1 : Int32)) dX7_does_76 (by decide) rfl ?_
      refine lm_iload_n C dX7_does_77 rfl 2 rfl rfl ?_
      obtain ⟨r10, σ9, qσ9, hF⟩ := lm_b2e hF
      refine lm_callV C (n := 2) (ci := 7) (w' := (mdW z a σ9)) hA (m_X7_drop D z zo l a σ (1 : Int32) t2 r10 σ9 qσ9) gX7_does_X7_drop rfl (by decide +kernel) ⟨Nat.le_of_ble_eq_true rfl, Nat.le_of_ble_eq_true rfl⟩ ⟨Nat.le_of_ble_eq_true rfl, Nat.le_of_ble_eq_true rfl⟩ 0 rfl rfl lm_pr lm_pr' rfl rfl (Nat.le_of_ble_eq_true rfl) dX7_does_78 (st' := [.int r10]) rfl rfl ?_
      cases hF
      exact lm_iret C hr hk rfl rfl dX7_does_81
    · have hF := lm_brf hF c8
      rcases Classical.em ((σ 7 (((4 : Int32) * x1)).toNatClampNeg) = (115 : Int32)) with c11 | c11
      · have hF := lm_brt hF c11
        refine lm_lookup C (off := 33) (tgt := 52) dX7_does_19 (by decide) (by rw [c11]; decide) (by decide) ?_
        refine lm_aload_n C dX7_does_52 rfl 0 rfl rfl ?_
        refine lm_iload_n C dX7_does_53 rfl 2 rfl rfl ?_
        obtain ⟨r13, σ12, qσ12, hF⟩ := lm_b2e hF
        refine lm_callV C (n := 1) (ci := 7) (w' := (mdW z a σ12)) hA (m_X7_step D z zo l a σ t2 r13 σ12 qσ12) gX7_does_X7_step rfl (by decide +kernel) ⟨Nat.le_of_ble_eq_true rfl, Nat.le_of_ble_eq_true rfl⟩ ⟨Nat.le_of_ble_eq_true rfl, Nat.le_of_ble_eq_true rfl⟩ 0 rfl rfl lm_pr lm_pr' rfl rfl (Nat.le_of_ble_eq_true rfl) dX7_does_54 (st' := [.int r13]) rfl rfl ?_
        cases hF
        exact lm_iret C hr hk rfl rfl dX7_does_57
      · have hF := lm_brf hF c11
        refine lm_lookup C (off := 63) (tgt := 82) dX7_does_19 (by decide) (by rw [lv_osw c4 (by decide)]; rw [lv_osw c8 (by decide)]; rw [lv_osw c11 (by decide)]; rfl) (by decide) ?_
        refine lm_aload_n C dX7_does_82 rfl 0 rfl rfl ?_
        obtain ⟨r15, σ14, qσ14, hF⟩ := lm_b2e hF
        refine lm_callV C (n := 0) (ci := 7) (w' := (mdW z a σ14)) hA (m_X7_again D z zo l a σ  r15 σ14 qσ14) gX7_does_X7_again rfl (by decide +kernel) ⟨Nat.le_of_ble_eq_true rfl, Nat.le_of_ble_eq_true rfl⟩ ⟨Nat.le_of_ble_eq_true rfl, Nat.le_of_ble_eq_true rfl⟩ 0 rfl rfl lm_pr lm_pr' rfl rfl (Nat.le_of_ble_eq_true rfl) dX7_does_83 (st' := [.int r15]) rfl rfl ?_
        cases hF
        exact lm_iret C hr hk rfl rfl dX7_does_86
def F_X7_carryOut_L34 : Nat → Hp → Int32 → Option (Int32 × (Hp))
  | 0, _, _ => none
  | n + 1, σx, x1 =>
    lm_br ((σx 0 12) ≤ x1)
     (lm_lt (lm_u σx 0 6 (0 : Int32)) fun σ9 =>
     some (x1, σ9))
     (lm_br (¬ (σx 0 9) = 0)
      (lm_lt (lm_u σx 0 6 (0 : Int32)) fun σ11 =>
      some (x1, σ11))
      (lm_b2 (F_X7_does σx x1) fun r13 σ12 =>
      lm_br (0 ≤ r13)
       (lm_lt (lm_u σ12 0 9 (0 : Int32)) fun σ15 =>
       lm_lt (lm_u σ15 6 0 r13) fun σ16 =>
       lm_lt (lm_u σ16 6 1 x1) fun σ17 =>
       lm_gi (((4 : Int32) * x1) + (3 : Int32)) 124
       (lm_lt (lm_u σ17 6 2 (σ17 7 ((((4 : Int32) * x1) + (3 : Int32))).toNatClampNeg)) fun σ19 =>
       lm_br ((σ19 0 9) = 0)
        (F_X7_carryOut_L34 n σ19 (x1 + (1 : Int32)))
        (F_X7_carryOut_L34 n σ19 (x1 + (0 : Int32)))))
       (lm_lt (lm_u σ12 0 9 (1 : Int32)) fun σ21 =>
       lm_lt (lm_u σ21 6 0 r13) fun σ22 =>
       lm_lt (lm_u σ22 6 1 x1) fun σ23 =>
       lm_gi (((4 : Int32) * x1) + (3 : Int32)) 124
       (lm_lt (lm_u σ23 6 2 (σ23 7 ((((4 : Int32) * x1) + (3 : Int32))).toNatClampNeg)) fun σ25 =>
       lm_br ((σ25 0 9) = 0)
        (F_X7_carryOut_L34 n σ25 (x1 + (1 : Int32)))
        (F_X7_carryOut_L34 n σ25 (x1 + (0 : Int32)))))))
def F_X7_carryOut (σ : Hp)  : Option (Int32 × (Hp)) :=
  lm_b2 (F_X7_fault σ (1 : Int32)) fun r2 σ1 =>
  lm_br (r2 = (-4 : Int32))
   (lm_bd (F_X7_changes σ1) fun σ4 =>
   lm_lt (lm_u σ4 0 8 (0 : Int32)) fun σ5 =>
   lm_lt (lm_u σ5 0 6 (1 : Int32)) fun σ6 =>
   lm_lt (lm_u σ6 0 9 (0 : Int32)) fun σ7 =>
   F_X7_carryOut_L34 1000 σ7 (0 : Int32))
   (some ((-2 : Int32), σ1))
theorem in7_X7_carryOut : ∀ w ∈ u_ws RX7 TX7 14, w ∈ wsX7_carryOut := by decide +kernel
theorem fl131_X7_carryOut : Cond.fieldLink RX7 131 "LoopMemoModel" "many" "I" ∈ wsX7_carryOut := by decide +kernel
theorem fl31_X7_carryOut : Cond.fieldLink RX7 31 "LoopMemoModel" "runs" "Z" ∈ wsX7_carryOut := by decide +kernel
theorem fl163_X7_carryOut : Cond.fieldLink RX7 163 "LoopMemoModel" "isStopped" "Z" ∈ wsX7_carryOut := by decide +kernel
theorem fl25_X7_carryOut : Cond.fieldLink RX7 25 "LoopMemoModel" "stop" "[I" ∈ wsX7_carryOut := by decide +kernel
theorem fl28_X7_carryOut : Cond.fieldLink RX7 28 "LoopMemoModel" "read" "[I" ∈ wsX7_carryOut := by decide +kernel
theorem fl122_X7_carryOut : Cond.fieldLink RX7 122 "LoopMemoModel" "typed" "I" ∈ wsX7_carryOut := by decide +kernel
set_option maxRecDepth 100000 in
set_option maxHeartbeats 4000000 in
theorem m_X7_carryOut (D : va_G) (z zo : ClassId) (l : Launch) (a : Nat → Nat) (σ : Hp)  (r : Int32) (σ' : Hp) (hF : F_X7_carryOut σ  = some (r, σ')) : lm_C D z zo l yX7_carryOut wsX7_carryOut 10 221 [.ref (a 0)] (mdW z a σ) (some (.int r)) (mdW z a σ') := by
  refine lm_C.of (by decide) rfl (Nat.le_of_ble_eq_true rfl) (own := RX7) rfl ?_
  intro p e s m_ args below meth c C hr hk hA
  have loop_34 : ∀ (n : Nat) (σx : Hp) (x1 : Int32), F_X7_carryOut_L34 n σx x1 = some (r, σ') → lm_St p l e ({ frames := 10, cells := 0, slots := 0, locals := 221 }) s m_ args below meth c D (va_A (mdW z a σ) s.heap.size) 3 0 0 (lm_End below D (some (.int r)) (mdW z a σ) (mdW z a σ') args s) false (mdW z a σx) 34 [(0, .ref (a 0)), (1, .int x1)] [] := by
    intro n
    induction n with
    | zero => intro σx x1 hF; cases (show (none : Option _) = some _ from hF)
    | succ n ih =>
      intro σx x1 hF
      rw [F_X7_carryOut_L34] at hF
      refine lm_iload_n C dX7_carryOut_34 rfl 1 rfl rfl ?_
      refine lm_aload_n C dX7_carryOut_35 rfl 0 rfl rfl ?_
      refine lm_getf C (T := TX7) (N := 14) (v := .int (σx 0 12)) in7_X7_carryOut 0 rfl rfl 12 (by decide) fl131_X7_carryOut rfl rfl dX7_carryOut_36 rfl ?_
      refine lm_icmp_ge C (tgt := 116) dX7_carryOut_39 (by decide) rfl (fun c8 => ?_) (fun c8 => ?_)
      · have hF := lm_brt hF c8
        refine lm_aload_n C dX7_carryOut_116 rfl 0 rfl rfl ?_
        refine lm_iconst C (v := (0 : Int32)) dX7_carryOut_117 (by decide) rfl ?_
        obtain ⟨σ9, eσ9, hF⟩ := lm_lte hF
        refine lm_putf C (T := TX7) (N := 14) (ty := .boolean) (v := .int (0 : Int32)) (w' := (mdW z a σ9)) in7_X7_carryOut tyX7 tyX7_ok nmX7 0 rfl rfl 6 (by decide) fl31_X7_carryOut rfl rfl rfl rfl rfl (Nat.le_of_ble_eq_true rfl) dX7_carryOut_118 (by rw [← eσ9]; rfl) rfl ?_
        refine lm_iload_n C dX7_carryOut_121 rfl 1 rfl rfl ?_
        cases hF
        exact lm_iret C hr hk rfl rfl dX7_carryOut_122
      · have hF := lm_brf hF c8
        refine lm_aload_n C dX7_carryOut_42 rfl 0 rfl rfl ?_
        refine lm_getf C (T := TX7) (N := 14) (v := .int (σx 0 9)) in7_X7_carryOut 0 rfl rfl 9 (by decide) fl163_X7_carryOut rfl rfl dX7_carryOut_43 rfl ?_
        refine lm_if_ne C (tgt := 116) dX7_carryOut_46 (by decide) rfl (fun c10 => ?_) (fun c10 => ?_)
        · have hF := lm_brt hF c10
          refine lm_aload_n C dX7_carryOut_116 rfl 0 rfl rfl ?_
          refine lm_iconst C (v := (0 : Int32)) dX7_carryOut_117 (by decide) rfl ?_
          obtain ⟨σ11, eσ11, hF⟩ := lm_lte hF
          refine lm_putf C (T := TX7) (N := 14) (ty := .boolean) (v := .int (0 : Int32)) (w' := (mdW z a σ11)) in7_X7_carryOut tyX7 tyX7_ok nmX7 0 rfl rfl 6 (by decide) fl31_X7_carryOut rfl rfl rfl rfl rfl (Nat.le_of_ble_eq_true rfl) dX7_carryOut_118 (by rw [← eσ11]; rfl) rfl ?_
          refine lm_iload_n C dX7_carryOut_121 rfl 1 rfl rfl ?_
          cases hF
          exact lm_iret C hr hk rfl rfl dX7_carryOut_122
        · have hF := lm_brf hF c10
          refine lm_aload_n C dX7_carryOut_49 rfl 0 rfl rfl ?_
          refine lm_iload_n C dX7_carryOut_50 rfl 1 rfl rfl ?_
          obtain ⟨r13, σ12, qσ12, hF⟩ := lm_b2e hF
          refine lm_callV C (n := 1) (ci := 7) (w' := (mdW z a σ12)) hA (m_X7_does D z zo l a σx x1 r13 σ12 qσ12) gX7_carryOut_X7_does rfl (by decide +kernel) ⟨Nat.le_of_ble_eq_true rfl, Nat.le_of_ble_eq_true rfl⟩ ⟨Nat.le_of_ble_eq_true rfl, Nat.le_of_ble_eq_true rfl⟩ 0 rfl rfl lm_pr lm_pr' rfl rfl (Nat.le_of_ble_eq_true rfl) dX7_carryOut_51 (st' := [.int r13]) rfl rfl ?_
          refine lm_istore_n C (lv' := [(0, .ref (a 0)), (1, .int x1), (2, .int r13)]) dX7_carryOut_54 rfl (by decide) rfl [1, 2, 0] rfl rfl ?_
          refine lm_aload_n C dX7_carryOut_55 rfl 0 rfl rfl ?_
          refine lm_iload_n C dX7_carryOut_56 rfl 2 rfl rfl ?_
          refine lm_if_ge C (tgt := 64) dX7_carryOut_57 (by decide) rfl (fun c14 => ?_) (fun c14 => ?_)
          · have hF := lm_brt hF c14
            refine lm_iconst C (v := (0 : Int32)) dX7_carryOut_64 (by decide) rfl ?_
            obtain ⟨σ15, eσ15, hF⟩ := lm_lte hF
            refine lm_putf C (T := TX7) (N := 14) (ty := .boolean) (v := .int (0 : Int32)) (w' := (mdW z a σ15)) in7_X7_carryOut tyX7 tyX7_ok nmX7 0 rfl rfl 9 (by decide) fl163_X7_carryOut rfl rfl rfl rfl rfl (Nat.le_of_ble_eq_true rfl) dX7_carryOut_65 (by rw [← eσ15]; rfl) rfl ?_
            refine lm_aload_n C dX7_carryOut_68 rfl 0 rfl rfl ?_
            refine lm_getf C (T := TX7) (N := 14) (v := .ref (a 6)) in7_X7_carryOut 0 rfl rfl 10 (by decide) fl25_X7_carryOut rfl rfl dX7_carryOut_69 rfl ?_
            refine lm_iconst C (v := (0 : Int32)) dX7_carryOut_72 (by decide) rfl ?_
            refine lm_iload_n C dX7_carryOut_73 rfl 2 rfl rfl ?_
            obtain ⟨σ16, eσ16, hF⟩ := lm_lte hF
            refine lm_iast C (w' := (mdW z a σ16)) 6 rfl (by unfold vp_in; decide) dX7_carryOut_74 (by rw [← eσ16]; rfl) rfl ?_
            refine lm_aload_n C dX7_carryOut_75 rfl 0 rfl rfl ?_
            refine lm_getf C (T := TX7) (N := 14) (v := .ref (a 6)) in7_X7_carryOut 0 rfl rfl 10 (by decide) fl25_X7_carryOut rfl rfl dX7_carryOut_76 rfl ?_
            refine lm_iconst C (v := (1 : Int32)) dX7_carryOut_79 (by decide) rfl ?_
            refine lm_iload_n C dX7_carryOut_80 rfl 1 rfl rfl ?_
            obtain ⟨σ17, eσ17, hF⟩ := lm_lte hF
            refine lm_iast C (w' := (mdW z a σ17)) 6 rfl (by unfold vp_in; decide) dX7_carryOut_81 (by rw [← eσ17]; rfl) rfl ?_
            refine lm_aload_n C dX7_carryOut_82 rfl 0 rfl rfl ?_
            refine lm_getf C (T := TX7) (N := 14) (v := .ref (a 6)) in7_X7_carryOut 0 rfl rfl 10 (by decide) fl25_X7_carryOut rfl rfl dX7_carryOut_83 rfl ?_
            refine lm_iconst C (v := (2 : Int32)) dX7_carryOut_86 (by decide) rfl ?_
            refine lm_aload_n C dX7_carryOut_87 rfl 0 rfl rfl ?_
            refine lm_getf C (T := TX7) (N := 14) (v := .ref (a 7)) in7_X7_carryOut 0 rfl rfl 13 (by decide) fl28_X7_carryOut rfl rfl dX7_carryOut_88 rfl ?_
            refine lm_iconst C (v := (4 : Int32)) dX7_carryOut_91 (by decide) rfl ?_
            refine lm_iload_n C dX7_carryOut_92 rfl 1 rfl rfl ?_
            refine lm_imul C dX7_carryOut_93 rfl rfl ?_
            refine lm_iconst C (v := (3 : Int32)) dX7_carryOut_94 (by decide) rfl ?_
            refine lm_iadd C dX7_carryOut_95 rfl rfl ?_
            obtain ⟨b18, hF⟩ := lm_gie hF
            refine lm_iald C (v := (σ17 7 ((((4 : Int32) * x1) + (3 : Int32))).toNatClampNeg)) 7 rfl b18 rfl dX7_carryOut_96 rfl ?_
            obtain ⟨σ19, eσ19, hF⟩ := lm_lte hF
            refine lm_iast C (w' := (mdW z a σ19)) 6 rfl (by unfold vp_in; decide) dX7_carryOut_97 (by rw [← eσ19]; rfl) rfl ?_
            refine lm_iload_n C dX7_carryOut_98 rfl 1 rfl rfl ?_
            refine lm_aload_n C dX7_carryOut_99 rfl 0 rfl rfl ?_
            refine lm_getf C (T := TX7) (N := 14) (v := .int (σ19 0 9)) in7_X7_carryOut 0 rfl rfl 9 (by decide) fl163_X7_carryOut rfl rfl dX7_carryOut_100 rfl ?_
            refine lm_if_eq C (tgt := 110) dX7_carryOut_103 (by decide) rfl (fun c20 => ?_) (fun c20 => ?_)
            · have hF := lm_brt hF c20
              refine lm_iconst C (v := (1 : Int32)) dX7_carryOut_110 (by decide) rfl ?_
              refine lm_iadd C dX7_carryOut_111 rfl rfl ?_
              refine lm_istore_n C (lv' := [(0, .ref (a 0)), (1, .int (x1 + (1 : Int32))), (2, .int r13)]) dX7_carryOut_112 rfl (by decide) rfl [1, 0, 2] rfl rfl ?_
              refine lm_goto C (tgt := 34) dX7_carryOut_113 (by decide) ?_
              refine lm_lvsub (lv' := [(0, .ref (a 0)), (1, .int (x1 + (1 : Int32)))]) [0, 1] rfl ?_
              exact ih σ19 (x1 + (1 : Int32)) hF
            · have hF := lm_brf hF c20
              refine lm_iconst C (v := (0 : Int32)) dX7_carryOut_106 (by decide) rfl ?_
              refine lm_goto C (tgt := 111) dX7_carryOut_107 (by decide) ?_
              refine lm_iadd C dX7_carryOut_111 rfl rfl ?_
              refine lm_istore_n C (lv' := [(0, .ref (a 0)), (1, .int (x1 + (0 : Int32))), (2, .int r13)]) dX7_carryOut_112 rfl (by decide) rfl [1, 0, 2] rfl rfl ?_
              refine lm_goto C (tgt := 34) dX7_carryOut_113 (by decide) ?_
              refine lm_lvsub (lv' := [(0, .ref (a 0)), (1, .int (x1 + (0 : Int32)))]) [0, 1] rfl ?_
              exact ih σ19 (x1 + (0 : Int32)) hF
          · have hF := lm_brf hF c14
            refine lm_iconst C (v := (1 : Int32)) dX7_carryOut_60 (by decide) rfl ?_
            refine lm_goto C (tgt := 65) dX7_carryOut_61 (by decide) ?_
            obtain ⟨σ21, eσ21, hF⟩ := lm_lte hF
            refine lm_putf C (T := TX7) (N := 14) (ty := .boolean) (v := .int (1 : Int32)) (w' := (mdW z a σ21)) in7_X7_carryOut tyX7 tyX7_ok nmX7 0 rfl rfl 9 (by decide) fl163_X7_carryOut rfl rfl rfl rfl rfl (Nat.le_of_ble_eq_true rfl) dX7_carryOut_65 (by rw [← eσ21]; rfl) rfl ?_
            refine lm_aload_n C dX7_carryOut_68 rfl 0 rfl rfl ?_
            refine lm_getf C (T := TX7) (N := 14) (v := .ref (a 6)) in7_X7_carryOut 0 rfl rfl 10 (by decide) fl25_X7_carryOut rfl rfl dX7_carryOut_69 rfl ?_
            refine lm_iconst C (v := (0 : Int32)) dX7_carryOut_72 (by decide) rfl ?_
            refine lm_iload_n C dX7_carryOut_73 rfl 2 rfl rfl ?_
            obtain ⟨σ22, eσ22, hF⟩ := lm_lte hF
            refine lm_iast C (w' := (mdW z a σ22)) 6 rfl (by unfold vp_in; decide) dX7_carryOut_74 (by rw [← eσ22]; rfl) rfl ?_
            refine lm_aload_n C dX7_carryOut_75 rfl 0 rfl rfl ?_
            refine lm_getf C (T := TX7) (N := 14) (v := .ref (a 6)) in7_X7_carryOut 0 rfl rfl 10 (by decide) fl25_X7_carryOut rfl rfl dX7_carryOut_76 rfl ?_
            refine lm_iconst C (v := (1 : Int32)) dX7_carryOut_79 (by decide) rfl ?_
            refine lm_iload_n C dX7_carryOut_80 rfl 1 rfl rfl ?_
            obtain ⟨σ23, eσ23, hF⟩ := lm_lte hF
            refine lm_iast C (w' := (mdW z a σ23)) 6 rfl (by unfold vp_in; decide) dX7_carryOut_81 (by rw [← eσ23]; rfl) rfl ?_
            refine lm_aload_n C dX7_carryOut_82 rfl 0 rfl rfl ?_
            refine lm_getf C (T := TX7) (N := 14) (v := .ref (a 6)) in7_X7_carryOut 0 rfl rfl 10 (by decide) fl25_X7_carryOut rfl rfl dX7_carryOut_83 rfl ?_
            refine lm_iconst C (v := (2 : Int32)) dX7_carryOut_86 (by decide) rfl ?_
            refine lm_aload_n C dX7_carryOut_87 rfl 0 rfl rfl ?_
            refine lm_getf C (T := TX7) (N := 14) (v := .ref (a 7)) in7_X7_carryOut 0 rfl rfl 13 (by decide) fl28_X7_carryOut rfl rfl dX7_carryOut_88 rfl ?_
            refine lm_iconst C (v := (4 : Int32)) dX7_carryOut_91 (by decide) rfl ?_
            refine lm_iload_n C dX7_carryOut_92 rfl 1 rfl rfl ?_
            refine lm_imul C dX7_carryOut_93 rfl rfl ?_
            refine lm_iconst C (v := (3 : Int32)) dX7_carryOut_94 (by decide) rfl ?_
            refine lm_iadd C dX7_carryOut_95 rfl rfl ?_
            obtain ⟨b24, hF⟩ := lm_gie hF
            refine lm_iald C (v := (σ23 7 ((((4 : Int32) * x1) + (3 : Int32))).toNatClampNeg)) 7 rfl b24 rfl dX7_carryOut_96 rfl ?_
            obtain ⟨σ25, eσ25, hF⟩ := lm_lte hF
            refine lm_iast C (w' := (mdW z a σ25)) 6 rfl (by unfold vp_in; decide) dX7_carryOut_97 (by rw [← eσ25]; rfl) rfl ?_
            refine lm_iload_n C dX7_carryOut_98 rfl 1 rfl rfl ?_
            refine lm_aload_n C dX7_carryOut_99 rfl 0 rfl rfl ?_
            refine lm_getf C (T := TX7) (N := 14) (v := .int (σ25 0 9)) in7_X7_carryOut 0 rfl rfl 9 (by decide) fl163_X7_carryOut rfl rfl dX7_carryOut_100 rfl ?_
            refine lm_if_eq C (tgt := 110) dX7_carryOut_103 (by decide) rfl (fun c26 => ?_) (fun c26 => ?_)
            · have hF := lm_brt hF c26
              refine lm_iconst C (v := (1 : Int32)) dX7_carryOut_110 (by decide) rfl ?_
              refine lm_iadd C dX7_carryOut_111 rfl rfl ?_
              refine lm_istore_n C (lv' := [(0, .ref (a 0)), (1, .int (x1 + (1 : Int32))), (2, .int r13)]) dX7_carryOut_112 rfl (by decide) rfl [1, 0, 2] rfl rfl ?_
              refine lm_goto C (tgt := 34) dX7_carryOut_113 (by decide) ?_
              refine lm_lvsub (lv' := [(0, .ref (a 0)), (1, .int (x1 + (1 : Int32)))]) [0, 1] rfl ?_
              exact ih σ25 (x1 + (1 : Int32)) hF
            · have hF := lm_brf hF c26
              refine lm_iconst C (v := (0 : Int32)) dX7_carryOut_106 (by decide) rfl ?_
              refine lm_goto C (tgt := 111) dX7_carryOut_107 (by decide) ?_
              refine lm_iadd C dX7_carryOut_111 rfl rfl ?_
              refine lm_istore_n C (lv' := [(0, .ref (a 0)), (1, .int (x1 + (0 : Int32))), (2, .int r13)]) dX7_carryOut_112 rfl (by decide) rfl [1, 0, 2] rfl rfl ?_
              refine lm_goto C (tgt := 34) dX7_carryOut_113 (by decide) ?_
              refine lm_lvsub (lv' := [(0, .ref (a 0)), (1, .int (x1 + (0 : Int32)))]) [0, 1] rfl ?_
              exact ih σ25 (x1 + (0 : Int32)) hF
  show lm_St p l e ({ frames := 10, cells := 0, slots := 0, locals := 221 }) s m_ args below meth c D (va_A (mdW z a σ) s.heap.size) 3 0 0 (lm_End below D (some (.int r)) (mdW z a σ) (mdW z a σ') args s) false (mdW z a σ) 0 [(0, .ref (a 0))] []
  rw [F_X7_carryOut] at hF
  refine lm_aload_n C dX7_carryOut_0 rfl 0 rfl rfl ?_
  refine lm_iconst C (v := (1 : Int32)) dX7_carryOut_1 (by decide) rfl ?_
  obtain ⟨r2, σ1, qσ1, hF⟩ := lm_b2e hF
  refine lm_callV C (n := 1) (ci := 7) (w' := (mdW z a σ1)) hA (m_X7_fault D z zo l a σ (1 : Int32) r2 σ1 qσ1) gX7_carryOut_X7_fault rfl (by decide +kernel) ⟨Nat.le_of_ble_eq_true rfl, Nat.le_of_ble_eq_true rfl⟩ ⟨Nat.le_of_ble_eq_true rfl, Nat.le_of_ble_eq_true rfl⟩ 0 rfl rfl lm_pr lm_pr' rfl rfl (Nat.le_of_ble_eq_true rfl) dX7_carryOut_2 (st' := [.int r2]) rfl rfl ?_
  refine lm_bipush C (v := (-4 : Int32)) dX7_carryOut_5 (by decide) rfl ?_
  refine lm_icmp_eq C (tgt := 13) dX7_carryOut_7 (by decide) rfl (fun c3 => ?_) (fun c3 => ?_)
  · have hF := lm_brt hF c3
    refine lm_aload_n C dX7_carryOut_13 rfl 0 rfl rfl ?_
    obtain ⟨σ4, qσ4, hF⟩ := lm_bde hF
    refine lm_callV C (n := 0) (ci := 7) (w' := (mdW z a σ4)) hA (m_X7_changes D z zo l a σ1  σ4 qσ4) gX7_carryOut_X7_changes rfl (by decide +kernel) ⟨Nat.le_of_ble_eq_true rfl, Nat.le_of_ble_eq_true rfl⟩ ⟨Nat.le_of_ble_eq_true rfl, Nat.le_of_ble_eq_true rfl⟩ 0 rfl rfl lm_pr lm_pr' rfl rfl (Nat.le_of_ble_eq_true rfl) dX7_carryOut_14 (st' := []) rfl rfl ?_
    refine lm_aload_n C dX7_carryOut_17 rfl 0 rfl rfl ?_
    refine lm_iconst C (v := (0 : Int32)) dX7_carryOut_18 (by decide) rfl ?_
    obtain ⟨σ5, eσ5, hF⟩ := lm_lte hF
    refine lm_putf C (T := TX7) (N := 14) (ty := .int) (v := .int (0 : Int32)) (w' := (mdW z a σ5)) in7_X7_carryOut tyX7 tyX7_ok nmX7 0 rfl rfl 8 (by decide) fl122_X7_carryOut rfl rfl rfl rfl rfl (Nat.le_of_ble_eq_true rfl) dX7_carryOut_19 (by rw [← eσ5]; rfl) rfl ?_
    refine lm_aload_n C dX7_carryOut_22 rfl 0 rfl rfl ?_
    refine lm_iconst C (v := (1 : Int32)) dX7_carryOut_23 (by decide) rfl ?_
    obtain ⟨σ6, eσ6, hF⟩ := lm_lte hF
    refine lm_putf C (T := TX7) (N := 14) (ty := .boolean) (v := .int (1 : Int32)) (w' := (mdW z a σ6)) in7_X7_carryOut tyX7 tyX7_ok nmX7 0 rfl rfl 6 (by decide) fl31_X7_carryOut rfl rfl rfl rfl rfl (Nat.le_of_ble_eq_true rfl) dX7_carryOut_24 (by rw [← eσ6]; rfl) rfl ?_
    refine lm_aload_n C dX7_carryOut_27 rfl 0 rfl rfl ?_
    refine lm_iconst C (v := (0 : Int32)) dX7_carryOut_28 (by decide) rfl ?_
    obtain ⟨σ7, eσ7, hF⟩ := lm_lte hF
    refine lm_putf C (T := TX7) (N := 14) (ty := .boolean) (v := .int (0 : Int32)) (w' := (mdW z a σ7)) in7_X7_carryOut tyX7 tyX7_ok nmX7 0 rfl rfl 9 (by decide) fl163_X7_carryOut rfl rfl rfl rfl rfl (Nat.le_of_ble_eq_true rfl) dX7_carryOut_29 (by rw [← eσ7]; rfl) rfl ?_
    refine lm_iconst C (v := (0 : Int32)) dX7_carryOut_32 (by decide) rfl ?_
    refine lm_istore_n C (lv' := [(0, .ref (a 0)), (1, .int (0 : Int32))]) dX7_carryOut_33 rfl (by decide) rfl [1, 0] rfl rfl ?_
    exact loop_34 1000 σ7 (0 : Int32) hF
  · have hF := lm_brf hF c3
    refine lm_bipush C (v := (-2 : Int32)) dX7_carryOut_10 (by decide) rfl ?_
    cases hF
    exact lm_iret C hr hk rfl rfl dX7_carryOut_12
def F_X7_why (σ : Hp) (x1 : Int32) : Option Int32 :=
  lm_bd (F_X7_in x1 (0 : Int32) (2 : Int32)) fun r1 =>
  lm_br (¬ r1 = 0)
   (lm_br ((σ 0 9) = 0)
    (some (-4 : Int32))
    (lm_gi x1 3
    (some (σ 6 x1.toNatClampNeg))))
   (some (-1 : Int32))
theorem in7_X7_why : ∀ w ∈ u_ws RX7 TX7 14, w ∈ wsX7_why := by decide +kernel
theorem fl163_X7_why : Cond.fieldLink RX7 163 "LoopMemoModel" "isStopped" "Z" ∈ wsX7_why := by decide +kernel
theorem fl25_X7_why : Cond.fieldLink RX7 25 "LoopMemoModel" "stop" "[I" ∈ wsX7_why := by decide +kernel
set_option maxRecDepth 100000 in
set_option maxHeartbeats 4000000 in
theorem m_X7_why (D : va_G) (z zo : ClassId) (l : Launch) (a : Nat → Nat) (σ : Hp) (x1 : Int32) (r : Int32)  (hF : F_X7_why σ x1 = some r) : lm_CR D z zo l yX7_why wsX7_why 1 22 [.ref (a 0), .int x1] (mdW z a σ) (some (.int r)) := by
  refine lm_CR.of (by decide) rfl (Nat.le_of_ble_eq_true rfl) (own := RX7) rfl ?_
  intro p e s m_ args below meth c C hr hk
  show lm_St p l e ({ frames := 1, cells := 0, slots := 0, locals := 22 }) s m_ args below meth c D (fun _ => False) 2 0 0 (lm_EndR below (some (.int r)) args s) true (mdW z a σ) 0 [(0, .ref (a 0)), (1, .int x1)] []
  rw [F_X7_why] at hF
  refine lm_iload_n C dX7_why_0 rfl 1 rfl rfl ?_
  refine lm_iconst C (v := (0 : Int32)) dX7_why_1 (by decide) rfl ?_
  refine lm_iconst C (v := (2 : Int32)) dX7_why_2 (by decide) rfl ?_
  obtain ⟨r1, qr1, hF⟩ := lm_bde hF
  refine lm_callSR C (n := 3) (m_X7_in D z zo l   x1 (0 : Int32) (2 : Int32) r1 qr1) gX7_why_X7_in rfl (by decide +kernel) ⟨Nat.le_of_ble_eq_true rfl, Nat.le_of_ble_eq_true rfl⟩ ⟨Nat.le_of_ble_eq_true rfl, Nat.le_of_ble_eq_true rfl⟩ (fun _ h => absurd h List.not_mem_nil) rfl rfl (Nat.le_of_ble_eq_true rfl) dX7_why_3 (st' := [.int r1]) rfl rfl ?_
  refine lm_if_ne C (tgt := 13) dX7_why_6 (by decide) rfl (fun c2 => ?_) (fun c2 => ?_)
  · have hF := lm_brt hF c2
    refine lm_aload_n C dX7_why_13 rfl 0 rfl rfl ?_
    refine lm_getf C (T := TX7) (N := 14) (v := .int (σ 0 9)) in7_X7_why 0 rfl rfl 9 (by decide) fl163_X7_why rfl rfl dX7_why_14 rfl ?_
    refine lm_if_eq C (tgt := 29) dX7_why_17 (by decide) rfl (fun c3 => ?_) (fun c3 => ?_)
    · have hF := lm_brt hF c3
      refine lm_bipush C (v := (-4 : Int32)) dX7_why_29 (by decide) rfl ?_
      cases hF
      exact lm_iretR C hr hk rfl dX7_why_31
    · have hF := lm_brf hF c3
      refine lm_aload_n C dX7_why_20 rfl 0 rfl rfl ?_
      refine lm_getf C (T := TX7) (N := 14) (v := .ref (a 6)) in7_X7_why 0 rfl rfl 10 (by decide) fl25_X7_why rfl rfl dX7_why_21 rfl ?_
      refine lm_iload_n C dX7_why_24 rfl 1 rfl rfl ?_
      obtain ⟨b4, hF⟩ := lm_gie hF
      refine lm_iald C (v := (σ 6 x1.toNatClampNeg)) 6 rfl b4 rfl dX7_why_25 rfl ?_
      refine lm_goto C (tgt := 31) dX7_why_26 (by decide) ?_
      cases hF
      exact lm_iretR C hr hk rfl dX7_why_31
  · have hF := lm_brf hF c2
    refine lm_iconst C (v := (-1 : Int32)) dX7_why_9 (by decide) rfl ?_
    refine lm_goto C (tgt := 31) dX7_why_10 (by decide) ?_
    cases hF
    exact lm_iretR C hr hk rfl dX7_why_31
def F_X7_row (σ : Hp) (x1 x2 x3 : Int32) : Option Int32 :=
  lm_br (x1 = 0)
   (lm_bd (F_X7_isOuter σ x2) fun r2 =>
   lm_br (r2 = 0)
    (some (-1 : Int32))
    (lm_bd (F_X7_in x3 (0 : Int32) (2 : Int32)) fun r4 =>
    lm_br (¬ r4 = 0)
     (lm_br ((2 : Int32) ≤ x3)
      (lm_br ((σ 1 7) ≤ x2)
       (some (0 : Int32))
       (some (1 : Int32)))
      (lm_gi (((57 : Int32) + ((2 : Int32) * x2)) + x3) 127
      (some (σ 1 ((((57 : Int32) + ((2 : Int32) * x2)) + x3)).toNatClampNeg))))
     (some (-1 : Int32))))
   (lm_bd (F_X7_isInner σ x2) fun r13 =>
   lm_br (¬ r13 = 0)
    (lm_bd (F_X7_in x3 (0 : Int32) (2 : Int32)) fun r15 =>
    lm_br (¬ r15 = 0)
     (lm_br ((2 : Int32) ≤ x3)
      (lm_bd (F_X7_innerKey σ x2) fun r19 =>
      lm_bd (F_X7_isKnown σ r19) fun r20 =>
      lm_br (r20 = 0)
       (some (0 : Int32))
       (lm_bd (F_X7_innerKey σ x2) fun r23 =>
       lm_bd (F_X7_isFound σ x2 r23) fun r24 =>
       lm_br (r24 = 0)
        (some (0 : Int32))
        (some (1 : Int32))))
      (lm_gi (((17 : Int32) + ((2 : Int32) * x2)) + x3) 127
      (some (σ 1 ((((17 : Int32) + ((2 : Int32) * x2)) + x3)).toNatClampNeg))))
     (some (-1 : Int32)))
    (some (-1 : Int32)))
theorem in7_X7_row : ∀ w ∈ u_ws RX7 TX7 14, w ∈ wsX7_row := by decide +kernel
theorem fl7_X7_row : Cond.fieldLink RX7 7 "LoopMemoModel" "s" "[I" ∈ wsX7_row := by decide +kernel
set_option maxRecDepth 100000 in
set_option maxHeartbeats 4000000 in
theorem m_X7_row (D : va_G) (z zo : ClassId) (l : Launch) (a : Nat → Nat) (σ : Hp) (x1 x2 x3 : Int32) (r : Int32)  (hF : F_X7_row σ x1 x2 x3 = some r) : lm_CR D z zo l yX7_row wsX7_row 2 44 [.ref (a 0), .int x1, .int x2, .int x3] (mdW z a σ) (some (.int r)) := by
  refine lm_CR.of (by decide) rfl (Nat.le_of_ble_eq_true rfl) (own := RX7) rfl ?_
  intro p e s m_ args below meth c C hr hk
  show lm_St p l e ({ frames := 2, cells := 0, slots := 0, locals := 44 }) s m_ args below meth c D (fun _ => False) 5 0 0 (lm_EndR below (some (.int r)) args s) true (mdW z a σ) 0 [(0, .ref (a 0)), (1, .int x1), (2, .int x2), (3, .int x3)] []
  rw [F_X7_row] at hF
  refine lm_iload_n C dX7_row_0 rfl 1 rfl rfl ?_
  refine lm_if_eq C (tgt := 15) dX7_row_1 (by decide) rfl (fun c1 => ?_) (fun c1 => ?_)
  · have hF := lm_brt hF c1
    refine lm_aload_n C dX7_row_15 rfl 0 rfl rfl ?_
    refine lm_iload_n C dX7_row_16 rfl 2 rfl rfl ?_
    obtain ⟨r2, qr2, hF⟩ := lm_bde hF
    refine lm_callVR C (n := 1) (ci := 7) (m_X7_isOuter D z zo l a σ x2 r2 qr2) gX7_row_X7_isOuter rfl (by decide +kernel) ⟨Nat.le_of_ble_eq_true rfl, Nat.le_of_ble_eq_true rfl⟩ ⟨Nat.le_of_ble_eq_true rfl, Nat.le_of_ble_eq_true rfl⟩ 0 rfl rfl (fun _ h => h) rfl rfl (Nat.le_of_ble_eq_true rfl) dX7_row_17 (st' := [.int r2]) rfl rfl ?_
    refine lm_if_eq C (tgt := 32) dX7_row_20 (by decide) rfl (fun c3 => ?_) (fun c3 => ?_)
    · have hF := lm_brt hF c3
      refine lm_iconst C (v := (-1 : Int32)) dX7_row_32 (by decide) rfl ?_
      cases hF
      exact lm_iretR C hr hk rfl dX7_row_33
    · have hF := lm_brf hF c3
      refine lm_iload_n C dX7_row_23 rfl 3 rfl rfl ?_
      refine lm_iconst C (v := (0 : Int32)) dX7_row_24 (by decide) rfl ?_
      refine lm_iconst C (v := (2 : Int32)) dX7_row_25 (by decide) rfl ?_
      obtain ⟨r4, qr4, hF⟩ := lm_bde hF
      refine lm_callSR C (n := 3) (m_X7_in D z zo l   x3 (0 : Int32) (2 : Int32) r4 qr4) gX7_row_X7_in rfl (by decide +kernel) ⟨Nat.le_of_ble_eq_true rfl, Nat.le_of_ble_eq_true rfl⟩ ⟨Nat.le_of_ble_eq_true rfl, Nat.le_of_ble_eq_true rfl⟩ (fun _ h => absurd h List.not_mem_nil) rfl rfl (Nat.le_of_ble_eq_true rfl) dX7_row_26 (st' := [.int r4]) rfl rfl ?_
      refine lm_if_ne C (tgt := 34) dX7_row_29 (by decide) rfl (fun c5 => ?_) (fun c5 => ?_)
      · have hF := lm_brt hF c5
        refine lm_iload_n C dX7_row_34 rfl 3 rfl rfl ?_
        refine lm_iconst C (v := (2 : Int32)) dX7_row_35 (by decide) rfl ?_
        refine lm_icmp_ge C (tgt := 62) dX7_row_36 (by decide) rfl (fun c6 => ?_) (fun c6 => ?_)
        · have hF := lm_brt hF c6
          refine lm_iload_n C dX7_row_62 rfl 1 rfl rfl ?_
          refine lm_if_eq C (tgt := 99) dX7_row_63 (by decide) rfl (fun c7 => ?_) (fun c7 => ?_)
          · refine lm_iload_n C dX7_row_99 rfl 2 rfl rfl ?_
            refine lm_aload_n C dX7_row_100 rfl 0 rfl rfl ?_
            refine lm_getf C (T := TX7) (N := 14) (v := .ref (a 1)) in7_X7_row 0 rfl rfl 0 (by decide) fl7_X7_row rfl rfl dX7_row_101 rfl ?_
            refine lm_bipush C (v := (7 : Int32)) dX7_row_104 (by decide) rfl ?_
            refine lm_iald C (v := (σ 1 7)) 1 rfl (by unfold vp_in; decide) rfl dX7_row_106 rfl ?_
            refine lm_icmp_ge C (tgt := 114) dX7_row_107 (by decide) rfl (fun c8 => ?_) (fun c8 => ?_)
            · have hF := lm_brt hF c8
              refine lm_iconst C (v := (0 : Int32)) dX7_row_114 (by decide) rfl ?_
              refine lm_istore C (lv' := [(0, .ref (a 0)), (1, .int x1), (2, .int x2), (3, .int x3), (4, .int (0 : Int32))]) dX7_row_115 (by decide) rfl [1, 2, 3, 4, 0] rfl rfl ?_
              refine lm_iload C dX7_row_117 4 rfl rfl ?_
              refine lm_if_eq C (tgt := 126) dX7_row_119 (by decide) rfl (fun c9 => ?_) (fun c9 => ?_)
              · refine lm_iconst C (v := (0 : Int32)) dX7_row_126 (by decide) rfl ?_
                cases hF
                exact lm_iretR C hr hk rfl dX7_row_127
              · exact absurd (by decide) c9
            · have hF := lm_brf hF c8
              refine lm_iconst C (v := (1 : Int32)) dX7_row_110 (by decide) rfl ?_
              refine lm_goto C (tgt := 115) dX7_row_111 (by decide) ?_
              refine lm_istore C (lv' := [(0, .ref (a 0)), (1, .int x1), (2, .int x2), (3, .int x3), (4, .int (1 : Int32))]) dX7_row_115 (by decide) rfl [1, 2, 3, 4, 0] rfl rfl ?_
              refine lm_iload C dX7_row_117 4 rfl rfl ?_
              refine lm_if_eq C (tgt := 126) dX7_row_119 (by decide) rfl (fun c10 => ?_) (fun c10 => ?_)
              · exact absurd c10 (by decide)
              · refine lm_iconst C (v := (1 : Int32)) dX7_row_122 (by decide) rfl ?_
                refine lm_goto C (tgt := 127) dX7_row_123 (by decide) ?_
                cases hF
                exact lm_iretR C hr hk rfl dX7_row_127
          · exact (by simp_all : False).elim
        · have hF := lm_brf hF c6
          refine lm_aload_n C dX7_row_39 rfl 0 rfl rfl ?_
          refine lm_getf C (T := TX7) (N := 14) (v := .ref (a 1)) in7_X7_row 0 rfl rfl 0 (by decide) fl7_X7_row rfl rfl dX7_row_40 rfl ?_
          refine lm_iload_n C dX7_row_43 rfl 1 rfl rfl ?_
          refine lm_if_eq C (tgt := 52) dX7_row_44 (by decide) rfl (fun c11 => ?_) (fun c11 => ?_)
          · refine lm_bipush C (v := (57 : Int32)) dX7_row_52 (by decide) rfl ?_
            refine lm_iconst C (v := (2 : Int32)) dX7_row_54 (by decide) rfl ?_
            refine lm_iload_n C dX7_row_55 rfl 2 rfl rfl ?_
            refine lm_imul C dX7_row_56 rfl rfl ?_
            refine lm_iadd C dX7_row_57 rfl rfl ?_
            refine lm_iload_n C dX7_row_58 rfl 3 rfl rfl ?_
            refine lm_iadd C dX7_row_59 rfl rfl ?_
            obtain ⟨b12, hF⟩ := lm_gie hF
            refine lm_iald C (v := (σ 1 ((((57 : Int32) + ((2 : Int32) * x2)) + x3)).toNatClampNeg)) 1 rfl b12 rfl dX7_row_60 rfl ?_
            cases hF
            exact lm_iretR C hr hk rfl dX7_row_61
          · exact (by simp_all : False).elim
      · have hF := lm_brf hF c5
        refine lm_iconst C (v := (-1 : Int32)) dX7_row_32 (by decide) rfl ?_
        cases hF
        exact lm_iretR C hr hk rfl dX7_row_33
  · have hF := lm_brf hF c1
    refine lm_aload_n C dX7_row_4 rfl 0 rfl rfl ?_
    refine lm_iload_n C dX7_row_5 rfl 2 rfl rfl ?_
    obtain ⟨r13, qr13, hF⟩ := lm_bde hF
    refine lm_callVR C (n := 1) (ci := 7) (m_X7_isInner D z zo l a σ x2 r13 qr13) gX7_row_X7_isInner rfl (by decide +kernel) ⟨Nat.le_of_ble_eq_true rfl, Nat.le_of_ble_eq_true rfl⟩ ⟨Nat.le_of_ble_eq_true rfl, Nat.le_of_ble_eq_true rfl⟩ 0 rfl rfl (fun _ h => h) rfl rfl (Nat.le_of_ble_eq_true rfl) dX7_row_6 (st' := [.int r13]) rfl rfl ?_
    refine lm_if_ne C (tgt := 23) dX7_row_9 (by decide) rfl (fun c14 => ?_) (fun c14 => ?_)
    · have hF := lm_brt hF c14
      refine lm_iload_n C dX7_row_23 rfl 3 rfl rfl ?_
      refine lm_iconst C (v := (0 : Int32)) dX7_row_24 (by decide) rfl ?_
      refine lm_iconst C (v := (2 : Int32)) dX7_row_25 (by decide) rfl ?_
      obtain ⟨r15, qr15, hF⟩ := lm_bde hF
      refine lm_callSR C (n := 3) (m_X7_in D z zo l   x3 (0 : Int32) (2 : Int32) r15 qr15) gX7_row_X7_in rfl (by decide +kernel) ⟨Nat.le_of_ble_eq_true rfl, Nat.le_of_ble_eq_true rfl⟩ ⟨Nat.le_of_ble_eq_true rfl, Nat.le_of_ble_eq_true rfl⟩ (fun _ h => absurd h List.not_mem_nil) rfl rfl (Nat.le_of_ble_eq_true rfl) dX7_row_26 (st' := [.int r15]) rfl rfl ?_
      refine lm_if_ne C (tgt := 34) dX7_row_29 (by decide) rfl (fun c16 => ?_) (fun c16 => ?_)
      · have hF := lm_brt hF c16
        refine lm_iload_n C dX7_row_34 rfl 3 rfl rfl ?_
        refine lm_iconst C (v := (2 : Int32)) dX7_row_35 (by decide) rfl ?_
        refine lm_icmp_ge C (tgt := 62) dX7_row_36 (by decide) rfl (fun c17 => ?_) (fun c17 => ?_)
        · have hF := lm_brt hF c17
          refine lm_iload_n C dX7_row_62 rfl 1 rfl rfl ?_
          refine lm_if_eq C (tgt := 99) dX7_row_63 (by decide) rfl (fun c18 => ?_) (fun c18 => ?_)
          · exact (by simp_all : False).elim
          · refine lm_aload_n C dX7_row_66 rfl 0 rfl rfl ?_
            refine lm_aload_n C dX7_row_67 rfl 0 rfl rfl ?_
            refine lm_iload_n C dX7_row_68 rfl 2 rfl rfl ?_
            obtain ⟨r19, qr19, hF⟩ := lm_bde hF
            refine lm_callVR C (n := 1) (ci := 7) (m_X7_innerKey D z zo l a σ x2 r19 qr19) gX7_row_X7_innerKey rfl (by decide +kernel) ⟨Nat.le_of_ble_eq_true rfl, Nat.le_of_ble_eq_true rfl⟩ ⟨Nat.le_of_ble_eq_true rfl, Nat.le_of_ble_eq_true rfl⟩ 0 rfl rfl (fun _ h => h) rfl rfl (Nat.le_of_ble_eq_true rfl) dX7_row_69 (st' := [.int r19, .ref (a 0)]) rfl rfl ?_
            obtain ⟨r20, qr20, hF⟩ := lm_bde hF
            refine lm_callVR C (n := 1) (ci := 7) (m_X7_isKnown D z zo l a σ r19 r20 qr20) gX7_row_X7_isKnown rfl (by decide +kernel) ⟨Nat.le_of_ble_eq_true rfl, Nat.le_of_ble_eq_true rfl⟩ ⟨Nat.le_of_ble_eq_true rfl, Nat.le_of_ble_eq_true rfl⟩ 0 rfl rfl (fun _ h => h) rfl rfl (Nat.le_of_ble_eq_true rfl) dX7_row_72 (st' := [.int r20]) rfl rfl ?_
            refine lm_if_eq C (tgt := 95) dX7_row_75 (by decide) rfl (fun c21 => ?_) (fun c21 => ?_)
            · have hF := lm_brt hF c21
              refine lm_iconst C (v := (0 : Int32)) dX7_row_95 (by decide) rfl ?_
              refine lm_goto C (tgt := 115) dX7_row_96 (by decide) ?_
              refine lm_istore C (lv' := [(0, .ref (a 0)), (1, .int x1), (2, .int x2), (3, .int x3), (4, .int (0 : Int32))]) dX7_row_115 (by decide) rfl [1, 2, 3, 4, 0] rfl rfl ?_
              refine lm_iload C dX7_row_117 4 rfl rfl ?_
              refine lm_if_eq C (tgt := 126) dX7_row_119 (by decide) rfl (fun c22 => ?_) (fun c22 => ?_)
              · refine lm_iconst C (v := (0 : Int32)) dX7_row_126 (by decide) rfl ?_
                cases hF
                exact lm_iretR C hr hk rfl dX7_row_127
              · exact absurd (by decide) c22
            · have hF := lm_brf hF c21
              refine lm_aload_n C dX7_row_78 rfl 0 rfl rfl ?_
              refine lm_iload_n C dX7_row_79 rfl 2 rfl rfl ?_
              refine lm_aload_n C dX7_row_80 rfl 0 rfl rfl ?_
              refine lm_iload_n C dX7_row_81 rfl 2 rfl rfl ?_
              obtain ⟨r23, qr23, hF⟩ := lm_bde hF
              refine lm_callVR C (n := 1) (ci := 7) (m_X7_innerKey D z zo l a σ x2 r23 qr23) gX7_row_X7_innerKey rfl (by decide +kernel) ⟨Nat.le_of_ble_eq_true rfl, Nat.le_of_ble_eq_true rfl⟩ ⟨Nat.le_of_ble_eq_true rfl, Nat.le_of_ble_eq_true rfl⟩ 0 rfl rfl (fun _ h => h) rfl rfl (Nat.le_of_ble_eq_true rfl) dX7_row_82 (st' := [.int r23, .int x2, .ref (a 0)]) rfl rfl ?_
              obtain ⟨r24, qr24, hF⟩ := lm_bde hF
              refine lm_callVR C (n := 2) (ci := 7) (m_X7_isFound D z zo l a σ x2 r23 r24 qr24) gX7_row_X7_isFound rfl (by decide +kernel) ⟨Nat.le_of_ble_eq_true rfl, Nat.le_of_ble_eq_true rfl⟩ ⟨Nat.le_of_ble_eq_true rfl, Nat.le_of_ble_eq_true rfl⟩ 0 rfl rfl (fun _ h => h) rfl rfl (Nat.le_of_ble_eq_true rfl) dX7_row_85 (st' := [.int r24]) rfl rfl ?_
              refine lm_if_eq C (tgt := 95) dX7_row_88 (by decide) rfl (fun c25 => ?_) (fun c25 => ?_)
              · have hF := lm_brt hF c25
                refine lm_iconst C (v := (0 : Int32)) dX7_row_95 (by decide) rfl ?_
                refine lm_goto C (tgt := 115) dX7_row_96 (by decide) ?_
                refine lm_istore C (lv' := [(0, .ref (a 0)), (1, .int x1), (2, .int x2), (3, .int x3), (4, .int (0 : Int32))]) dX7_row_115 (by decide) rfl [1, 2, 3, 4, 0] rfl rfl ?_
                refine lm_iload C dX7_row_117 4 rfl rfl ?_
                refine lm_if_eq C (tgt := 126) dX7_row_119 (by decide) rfl (fun c26 => ?_) (fun c26 => ?_)
                · refine lm_iconst C (v := (0 : Int32)) dX7_row_126 (by decide) rfl ?_
                  cases hF
                  exact lm_iretR C hr hk rfl dX7_row_127
                · exact absurd (by decide) c26
              · have hF := lm_brf hF c25
                refine lm_iconst C (v := (1 : Int32)) dX7_row_91 (by decide) rfl ?_
                refine lm_goto C (tgt := 115) dX7_row_92 (by decide) ?_
                refine lm_istore C (lv' := [(0, .ref (a 0)), (1, .int x1), (2, .int x2), (3, .int x3), (4, .int (1 : Int32))]) dX7_row_115 (by decide) rfl [1, 2, 3, 4, 0] rfl rfl ?_
                refine lm_iload C dX7_row_117 4 rfl rfl ?_
                refine lm_if_eq C (tgt := 126) dX7_row_119 (by decide) rfl (fun c27 => ?_) (fun c27 => ?_)
                · exact absurd c27 (by decide)
                · refine lm_iconst C (v := (1 : Int32)) dX7_row_122 (by decide) rfl ?_
                  refine lm_goto C (tgt := 127) dX7_row_123 (by decide) ?_
                  cases hF
                  exact lm_iretR C hr hk rfl dX7_row_127
        · have hF := lm_brf hF c17
          refine lm_aload_n C dX7_row_39 rfl 0 rfl rfl ?_
          refine lm_getf C (T := TX7) (N := 14) (v := .ref (a 1)) in7_X7_row 0 rfl rfl 0 (by decide) fl7_X7_row rfl rfl dX7_row_40 rfl ?_
          refine lm_iload_n C dX7_row_43 rfl 1 rfl rfl ?_
          refine lm_if_eq C (tgt := 52) dX7_row_44 (by decide) rfl (fun c28 => ?_) (fun c28 => ?_)
          · exact (by simp_all : False).elim
          · refine lm_bipush C (v := (17 : Int32)) dX7_row_47 (by decide) rfl ?_
            refine lm_goto C (tgt := 54) dX7_row_49 (by decide) ?_
            refine lm_iconst C (v := (2 : Int32)) dX7_row_54 (by decide) rfl ?_
            refine lm_iload_n C dX7_row_55 rfl 2 rfl rfl ?_
            refine lm_imul C dX7_row_56 rfl rfl ?_
            refine lm_iadd C dX7_row_57 rfl rfl ?_
            refine lm_iload_n C dX7_row_58 rfl 3 rfl rfl ?_
            refine lm_iadd C dX7_row_59 rfl rfl ?_
            obtain ⟨b29, hF⟩ := lm_gie hF
            refine lm_iald C (v := (σ 1 ((((17 : Int32) + ((2 : Int32) * x2)) + x3)).toNatClampNeg)) 1 rfl b29 rfl dX7_row_60 rfl ?_
            cases hF
            exact lm_iretR C hr hk rfl dX7_row_61
      · have hF := lm_brf hF c16
        refine lm_iconst C (v := (-1 : Int32)) dX7_row_32 (by decide) rfl ?_
        cases hF
        exact lm_iretR C hr hk rfl dX7_row_33
    · have hF := lm_brf hF c14
      refine lm_goto C (tgt := 32) dX7_row_12 (by decide) ?_
      refine lm_iconst C (v := (-1 : Int32)) dX7_row_32 (by decide) rfl ?_
      cases hF
      exact lm_iretR C hr hk rfl dX7_row_33
def F_X7_answer (σ : Hp) (x1 x2 : Int32) : Option Int32 :=
  lm_bd (F_X7_in x1 (0 : Int32) (9 : Int32)) fun r1 =>
  lm_br (r1 = 0)
   (some (-1 : Int32))
   (lm_bd (F_X7_in x2 (0 : Int32) (3 : Int32)) fun r3 =>
   lm_br (r3 = 0)
    (some (-1 : Int32))
    (lm_bd (F_X7_tell σ x1 x2) fun r5 =>
    some r5))
set_option maxRecDepth 100000 in
set_option maxHeartbeats 4000000 in
theorem m_X7_answer (D : va_G) (z zo : ClassId) (l : Launch) (a : Nat → Nat) (σ : Hp) (x1 x2 : Int32) (r : Int32)  (hF : F_X7_answer σ x1 x2 = some r) : lm_CR D z zo l yX7_answer wsX7_answer 5 110 [.ref (a 0), .int x1, .int x2] (mdW z a σ) (some (.int r)) := by
  refine lm_CR.of (by decide) rfl (Nat.le_of_ble_eq_true rfl) (own := RX7) rfl ?_
  intro p e s m_ args below meth c C hr hk
  show lm_St p l e ({ frames := 5, cells := 0, slots := 0, locals := 110 }) s m_ args below meth c D (fun _ => False) 3 0 0 (lm_EndR below (some (.int r)) args s) true (mdW z a σ) 0 [(0, .ref (a 0)), (1, .int x1), (2, .int x2)] []
  rw [F_X7_answer] at hF
  refine lm_iload_n C dX7_answer_0 rfl 1 rfl rfl ?_
  refine lm_iconst C (v := (0 : Int32)) dX7_answer_1 (by decide) rfl ?_
  refine lm_bipush C (v := (9 : Int32)) dX7_answer_2 (by decide) rfl ?_
  obtain ⟨r1, qr1, hF⟩ := lm_bde hF
  refine lm_callSR C (n := 3) (m_X7_in D z zo l   x1 (0 : Int32) (9 : Int32) r1 qr1) gX7_answer_X7_in rfl (by decide +kernel) ⟨Nat.le_of_ble_eq_true rfl, Nat.le_of_ble_eq_true rfl⟩ ⟨Nat.le_of_ble_eq_true rfl, Nat.le_of_ble_eq_true rfl⟩ (fun _ h => absurd h List.not_mem_nil) rfl rfl (Nat.le_of_ble_eq_true rfl) dX7_answer_4 (st' := [.int r1]) rfl rfl ?_
  refine lm_if_eq C (tgt := 28) dX7_answer_7 (by decide) rfl (fun c2 => ?_) (fun c2 => ?_)
  · have hF := lm_brt hF c2
    refine lm_iconst C (v := (-1 : Int32)) dX7_answer_28 (by decide) rfl ?_
    cases hF
    exact lm_iretR C hr hk rfl dX7_answer_29
  · have hF := lm_brf hF c2
    refine lm_iload_n C dX7_answer_10 rfl 2 rfl rfl ?_
    refine lm_iconst C (v := (0 : Int32)) dX7_answer_11 (by decide) rfl ?_
    refine lm_iconst C (v := (3 : Int32)) dX7_answer_12 (by decide) rfl ?_
    obtain ⟨r3, qr3, hF⟩ := lm_bde hF
    refine lm_callSR C (n := 3) (m_X7_in D z zo l   x2 (0 : Int32) (3 : Int32) r3 qr3) gX7_answer_X7_in rfl (by decide +kernel) ⟨Nat.le_of_ble_eq_true rfl, Nat.le_of_ble_eq_true rfl⟩ ⟨Nat.le_of_ble_eq_true rfl, Nat.le_of_ble_eq_true rfl⟩ (fun _ h => absurd h List.not_mem_nil) rfl rfl (Nat.le_of_ble_eq_true rfl) dX7_answer_13 (st' := [.int r3]) rfl rfl ?_
    refine lm_if_eq C (tgt := 28) dX7_answer_16 (by decide) rfl (fun c4 => ?_) (fun c4 => ?_)
    · have hF := lm_brt hF c4
      refine lm_iconst C (v := (-1 : Int32)) dX7_answer_28 (by decide) rfl ?_
      cases hF
      exact lm_iretR C hr hk rfl dX7_answer_29
    · have hF := lm_brf hF c4
      refine lm_aload_n C dX7_answer_19 rfl 0 rfl rfl ?_
      refine lm_iload_n C dX7_answer_20 rfl 1 rfl rfl ?_
      refine lm_iload_n C dX7_answer_21 rfl 2 rfl rfl ?_
      obtain ⟨r5, qr5, hF⟩ := lm_bde hF
      refine lm_callVR C (n := 2) (ci := 7) (m_X7_tell D z zo l a σ x1 x2 r5 qr5) gX7_answer_X7_tell rfl (by decide +kernel) ⟨Nat.le_of_ble_eq_true rfl, Nat.le_of_ble_eq_true rfl⟩ ⟨Nat.le_of_ble_eq_true rfl, Nat.le_of_ble_eq_true rfl⟩ 0 rfl rfl (fun _ h => h) rfl rfl (Nat.le_of_ble_eq_true rfl) dX7_answer_22 (st' := [.int r5]) rfl rfl ?_
      refine lm_goto C (tgt := 29) dX7_answer_25 (by decide) ?_
      cases hF
      exact lm_iretR C hr hk rfl dX7_answer_29
def F_X7_remembered (σ : Hp) (x1 x2 : Int32) : Option Int32 :=
  lm_bd (F_X7_in x1 (0 : Int32) (9 : Int32)) fun r1 =>
  lm_br (r1 = 0)
   (some (-1 : Int32))
   (lm_bd (F_X7_in x2 (0 : Int32) (5 : Int32)) fun r3 =>
   lm_br (¬ r3 = 0)
    (lm_bd (F_X7_isKnown σ x1) fun r5 =>
    lm_br (¬ r5 = 0)
     (lm_br (¬ x2 = (4 : Int32))
      (lm_br (¬ x2 = (5 : Int32))
       (lm_bd (F_X7_tell σ x1 x2) fun r9 =>
       some r9)
       (lm_bd (F_X7_orderOf σ x1) fun r10 =>
       some r10))
      (lm_gi ((97 : Int32) + x1) 127
      (some (σ 1 (((97 : Int32) + x1)).toNatClampNeg))))
     (some (-4 : Int32)))
    (some (-1 : Int32)))
theorem in7_X7_remembered : ∀ w ∈ u_ws RX7 TX7 14, w ∈ wsX7_remembered := by decide +kernel
theorem fl7_X7_remembered : Cond.fieldLink RX7 7 "LoopMemoModel" "s" "[I" ∈ wsX7_remembered := by decide +kernel
set_option maxRecDepth 100000 in
set_option maxHeartbeats 4000000 in
theorem m_X7_remembered (D : va_G) (z zo : ClassId) (l : Launch) (a : Nat → Nat) (σ : Hp) (x1 x2 : Int32) (r : Int32)  (hF : F_X7_remembered σ x1 x2 = some r) : lm_CR D z zo l yX7_remembered wsX7_remembered 5 110 [.ref (a 0), .int x1, .int x2] (mdW z a σ) (some (.int r)) := by
  refine lm_CR.of (by decide) rfl (Nat.le_of_ble_eq_true rfl) (own := RX7) rfl ?_
  intro p e s m_ args below meth c C hr hk
  show lm_St p l e ({ frames := 5, cells := 0, slots := 0, locals := 110 }) s m_ args below meth c D (fun _ => False) 3 0 0 (lm_EndR below (some (.int r)) args s) true (mdW z a σ) 0 [(0, .ref (a 0)), (1, .int x1), (2, .int x2)] []
  rw [F_X7_remembered] at hF
  refine lm_iload_n C dX7_remembered_0 rfl 1 rfl rfl ?_
  refine lm_iconst C (v := (0 : Int32)) dX7_remembered_1 (by decide) rfl ?_
  refine lm_bipush C (v := (9 : Int32)) dX7_remembered_2 (by decide) rfl ?_
  obtain ⟨r1, qr1, hF⟩ := lm_bde hF
  refine lm_callSR C (n := 3) (m_X7_in D z zo l   x1 (0 : Int32) (9 : Int32) r1 qr1) gX7_remembered_X7_in rfl (by decide +kernel) ⟨Nat.le_of_ble_eq_true rfl, Nat.le_of_ble_eq_true rfl⟩ ⟨Nat.le_of_ble_eq_true rfl, Nat.le_of_ble_eq_true rfl⟩ (fun _ h => absurd h List.not_mem_nil) rfl rfl (Nat.le_of_ble_eq_true rfl) dX7_remembered_4 (st' := [.int r1]) rfl rfl ?_
  refine lm_if_eq C (tgt := 19) dX7_remembered_7 (by decide) rfl (fun c2 => ?_) (fun c2 => ?_)
  · have hF := lm_brt hF c2
    refine lm_iconst C (v := (-1 : Int32)) dX7_remembered_19 (by decide) rfl ?_
    cases hF
    exact lm_iretR C hr hk rfl dX7_remembered_20
  · have hF := lm_brf hF c2
    refine lm_iload_n C dX7_remembered_10 rfl 2 rfl rfl ?_
    refine lm_iconst C (v := (0 : Int32)) dX7_remembered_11 (by decide) rfl ?_
    refine lm_iconst C (v := (5 : Int32)) dX7_remembered_12 (by decide) rfl ?_
    obtain ⟨r3, qr3, hF⟩ := lm_bde hF
    refine lm_callSR C (n := 3) (m_X7_in D z zo l   x2 (0 : Int32) (5 : Int32) r3 qr3) gX7_remembered_X7_in rfl (by decide +kernel) ⟨Nat.le_of_ble_eq_true rfl, Nat.le_of_ble_eq_true rfl⟩ ⟨Nat.le_of_ble_eq_true rfl, Nat.le_of_ble_eq_true rfl⟩ (fun _ h => absurd h List.not_mem_nil) rfl rfl (Nat.le_of_ble_eq_true rfl) dX7_remembered_13 (st' := [.int r3]) rfl rfl ?_
    refine lm_if_ne C (tgt := 21) dX7_remembered_16 (by decide) rfl (fun c4 => ?_) (fun c4 => ?_)
    · have hF := lm_brt hF c4
      refine lm_aload_n C dX7_remembered_21 rfl 0 rfl rfl ?_
      refine lm_iload_n C dX7_remembered_22 rfl 1 rfl rfl ?_
      obtain ⟨r5, qr5, hF⟩ := lm_bde hF
      refine lm_callVR C (n := 1) (ci := 7) (m_X7_isKnown D z zo l a σ x1 r5 qr5) gX7_remembered_X7_isKnown rfl (by decide +kernel) ⟨Nat.le_of_ble_eq_true rfl, Nat.le_of_ble_eq_true rfl⟩ ⟨Nat.le_of_ble_eq_true rfl, Nat.le_of_ble_eq_true rfl⟩ 0 rfl rfl (fun _ h => h) rfl rfl (Nat.le_of_ble_eq_true rfl) dX7_remembered_23 (st' := [.int r5]) rfl rfl ?_
      refine lm_if_ne C (tgt := 32) dX7_remembered_26 (by decide) rfl (fun c6 => ?_) (fun c6 => ?_)
      · have hF := lm_brt hF c6
        refine lm_iload_n C dX7_remembered_32 rfl 2 rfl rfl ?_
        refine lm_iconst C (v := (4 : Int32)) dX7_remembered_33 (by decide) rfl ?_
        refine lm_icmp_ne C (tgt := 49) dX7_remembered_34 (by decide) rfl (fun c7 => ?_) (fun c7 => ?_)
        · have hF := lm_brt hF c7
          refine lm_iload_n C dX7_remembered_49 rfl 2 rfl rfl ?_
          refine lm_iconst C (v := (5 : Int32)) dX7_remembered_50 (by decide) rfl ?_
          refine lm_icmp_ne C (tgt := 62) dX7_remembered_51 (by decide) rfl (fun c8 => ?_) (fun c8 => ?_)
          · have hF := lm_brt hF c8
            refine lm_aload_n C dX7_remembered_62 rfl 0 rfl rfl ?_
            refine lm_iload_n C dX7_remembered_63 rfl 1 rfl rfl ?_
            refine lm_iload_n C dX7_remembered_64 rfl 2 rfl rfl ?_
            obtain ⟨r9, qr9, hF⟩ := lm_bde hF
            refine lm_callVR C (n := 2) (ci := 7) (m_X7_tell D z zo l a σ x1 x2 r9 qr9) gX7_remembered_X7_tell rfl (by decide +kernel) ⟨Nat.le_of_ble_eq_true rfl, Nat.le_of_ble_eq_true rfl⟩ ⟨Nat.le_of_ble_eq_true rfl, Nat.le_of_ble_eq_true rfl⟩ 0 rfl rfl (fun _ h => h) rfl rfl (Nat.le_of_ble_eq_true rfl) dX7_remembered_65 (st' := [.int r9]) rfl rfl ?_
            cases hF
            exact lm_iretR C hr hk rfl dX7_remembered_68
          · have hF := lm_brf hF c8
            refine lm_aload_n C dX7_remembered_54 rfl 0 rfl rfl ?_
            refine lm_iload_n C dX7_remembered_55 rfl 1 rfl rfl ?_
            obtain ⟨r10, qr10, hF⟩ := lm_bde hF
            refine lm_callVR C (n := 1) (ci := 7) (m_X7_orderOf D z zo l a σ x1 r10 qr10) gX7_remembered_X7_orderOf rfl (by decide +kernel) ⟨Nat.le_of_ble_eq_true rfl, Nat.le_of_ble_eq_true rfl⟩ ⟨Nat.le_of_ble_eq_true rfl, Nat.le_of_ble_eq_true rfl⟩ 0 rfl rfl (fun _ h => h) rfl rfl (Nat.le_of_ble_eq_true rfl) dX7_remembered_56 (st' := [.int r10]) rfl rfl ?_
            refine lm_goto C (tgt := 68) dX7_remembered_59 (by decide) ?_
            cases hF
            exact lm_iretR C hr hk rfl dX7_remembered_68
        · have hF := lm_brf hF c7
          refine lm_aload_n C dX7_remembered_37 rfl 0 rfl rfl ?_
          refine lm_getf C (T := TX7) (N := 14) (v := .ref (a 1)) in7_X7_remembered 0 rfl rfl 0 (by decide) fl7_X7_remembered rfl rfl dX7_remembered_38 rfl ?_
          refine lm_bipush C (v := (97 : Int32)) dX7_remembered_41 (by decide) rfl ?_
          refine lm_iload_n C dX7_remembered_43 rfl 1 rfl rfl ?_
          refine lm_iadd C dX7_remembered_44 rfl rfl ?_
          obtain ⟨b11, hF⟩ := lm_gie hF
          refine lm_iald C (v := (σ 1 (((97 : Int32) + x1)).toNatClampNeg)) 1 rfl b11 rfl dX7_remembered_45 rfl ?_
          refine lm_goto C (tgt := 68) dX7_remembered_46 (by decide) ?_
          cases hF
          exact lm_iretR C hr hk rfl dX7_remembered_68
      · have hF := lm_brf hF c6
        refine lm_bipush C (v := (-4 : Int32)) dX7_remembered_29 (by decide) rfl ?_
        cases hF
        exact lm_iretR C hr hk rfl dX7_remembered_31
    · have hF := lm_brf hF c4
      refine lm_iconst C (v := (-1 : Int32)) dX7_remembered_19 (by decide) rfl ?_
      cases hF
      exact lm_iretR C hr hk rfl dX7_remembered_20
def F_X7_count (σ : Hp) (x1 : Int32) : Option Int32 :=
  lm_br (x1 = (0 : Int32))
   (some (σ 1 6))
   (lm_br (x1 = (1 : Int32))
    (some (σ 1 5))
    (lm_br (x1 = (2 : Int32))
     (lm_bd (F_X7_known σ) fun r4 =>
     some r4)
     (lm_br (x1 = (3 : Int32))
      (lm_bd (F_X7_weights σ) fun r6 =>
      some r6)
      (lm_br (x1 = (4 : Int32))
       (lm_gi (((7 : Int32) + x1) - (4 : Int32)) 127
       (some (σ 1 ((((7 : Int32) + x1) - (4 : Int32))).toNatClampNeg)))
       (lm_br (x1 = (5 : Int32))
        (lm_gi (((7 : Int32) + x1) - (4 : Int32)) 127
        (some (σ 1 ((((7 : Int32) + x1) - (4 : Int32))).toNatClampNeg)))
        (lm_br (x1 = (6 : Int32))
         (lm_gi (((7 : Int32) + x1) - (4 : Int32)) 127
         (some (σ 1 ((((7 : Int32) + x1) - (4 : Int32))).toNatClampNeg)))
         (lm_br (x1 = (7 : Int32))
          (lm_gi (((7 : Int32) + x1) - (4 : Int32)) 127
          (some (σ 1 ((((7 : Int32) + x1) - (4 : Int32))).toNatClampNeg)))
          (lm_br (x1 = (8 : Int32))
           (lm_gi (((7 : Int32) + x1) - (4 : Int32)) 127
           (some (σ 1 ((((7 : Int32) + x1) - (4 : Int32))).toNatClampNeg)))
           (lm_br (x1 = (9 : Int32))
            (lm_gi (((7 : Int32) + x1) - (4 : Int32)) 127
            (some (σ 1 ((((7 : Int32) + x1) - (4 : Int32))).toNatClampNeg)))
            (lm_br (x1 = (10 : Int32))
             (lm_gi (((7 : Int32) + x1) - (4 : Int32)) 127
             (some (σ 1 ((((7 : Int32) + x1) - (4 : Int32))).toNatClampNeg)))
             (lm_br (x1 = (11 : Int32))
              (lm_gi (((7 : Int32) + x1) - (4 : Int32)) 127
              (some (σ 1 ((((7 : Int32) + x1) - (4 : Int32))).toNatClampNeg)))
              (lm_br (x1 = (12 : Int32))
               (lm_gi (((7 : Int32) + x1) - (4 : Int32)) 127
               (some (σ 1 ((((7 : Int32) + x1) - (4 : Int32))).toNatClampNeg)))
               (lm_br (x1 = (13 : Int32))
                (lm_gi (x1 - (13 : Int32)) 127
                (some (σ 1 ((x1 - (13 : Int32))).toNatClampNeg)))
                (lm_br (x1 = (14 : Int32))
                 (lm_gi (x1 - (13 : Int32)) 127
                 (some (σ 1 ((x1 - (13 : Int32))).toNatClampNeg)))
                 (lm_br (x1 = (15 : Int32))
                  (lm_gi (x1 - (13 : Int32)) 127
                  (some (σ 1 ((x1 - (13 : Int32))).toNatClampNeg)))
                  (lm_br (x1 = (16 : Int32))
                   (lm_gi (x1 - (13 : Int32)) 127
                   (some (σ 1 ((x1 - (13 : Int32))).toNatClampNeg)))
                   (lm_br (x1 = (17 : Int32))
                    (lm_gi (x1 - (13 : Int32)) 127
                    (some (σ 1 ((x1 - (13 : Int32))).toNatClampNeg)))
                    (lm_br (x1 = (18 : Int32))
                     (some (σ 0 8))
                     (lm_br (x1 = (19 : Int32))
                      (some (σ 0 5))
                      (some (-1 : Int32)))))))))))))))))))))
theorem in7_X7_count : ∀ w ∈ u_ws RX7 TX7 14, w ∈ wsX7_count := by decide +kernel
theorem fl7_X7_count : Cond.fieldLink RX7 7 "LoopMemoModel" "s" "[I" ∈ wsX7_count := by decide +kernel
theorem fl122_X7_count : Cond.fieldLink RX7 122 "LoopMemoModel" "typed" "I" ∈ wsX7_count := by decide +kernel
theorem fl35_X7_count : Cond.fieldLink RX7 35 "LoopMemoModel" "pasts" "I" ∈ wsX7_count := by decide +kernel
set_option maxRecDepth 100000 in
set_option maxHeartbeats 4000000 in
theorem m_X7_count (D : va_G) (z zo : ClassId) (l : Launch) (a : Nat → Nat) (σ : Hp) (x1 : Int32) (r : Int32)  (hF : F_X7_count σ x1 = some r) : lm_CR D z zo l yX7_count wsX7_count 5 110 [.ref (a 0), .int x1] (mdW z a σ) (some (.int r)) := by
  refine lm_CR.of (by decide) rfl (Nat.le_of_ble_eq_true rfl) (own := RX7) rfl ?_
  intro p e s m_ args below meth c C hr hk
  show lm_St p l e ({ frames := 5, cells := 0, slots := 0, locals := 110 }) s m_ args below meth c D (fun _ => False) 2 0 0 (lm_EndR below (some (.int r)) args s) true (mdW z a σ) 0 [(0, .ref (a 0)), (1, .int x1)] []
  rw [F_X7_count] at hF
  refine lm_iload_n C dX7_count_0 rfl 1 rfl rfl ?_
  rcases Classical.em (x1 = (0 : Int32)) with c1 | c1
  · have hF := lm_brt hF c1
    refine lm_tableIn C (0 : Int32) (off := 95) (tgt := 96) dX7_count_1 c1 (by decide) (by decide) (by decide) (by decide) ?_
    refine lm_aload_n C dX7_count_96 rfl 0 rfl rfl ?_
    refine lm_getf C (T := TX7) (N := 14) (v := .ref (a 1)) in7_X7_count 0 rfl rfl 0 (by decide) fl7_X7_count rfl rfl dX7_count_97 rfl ?_
    refine lm_bipush C (v := (6 : Int32)) dX7_count_100 (by decide) rfl ?_
    refine lm_iald C (v := (σ 1 6)) 1 rfl (by unfold vp_in; decide) rfl dX7_count_102 rfl ?_
    cases hF
    exact lm_iretR C hr hk rfl dX7_count_103
  · have hF := lm_brf hF c1
    rcases Classical.em (x1 = (1 : Int32)) with c2 | c2
    · have hF := lm_brt hF c2
      refine lm_tableIn C (1 : Int32) (off := 103) (tgt := 104) dX7_count_1 c2 (by decide) (by decide) (by decide) (by decide) ?_
      refine lm_aload_n C dX7_count_104 rfl 0 rfl rfl ?_
      refine lm_getf C (T := TX7) (N := 14) (v := .ref (a 1)) in7_X7_count 0 rfl rfl 0 (by decide) fl7_X7_count rfl rfl dX7_count_105 rfl ?_
      refine lm_iconst C (v := (5 : Int32)) dX7_count_108 (by decide) rfl ?_
      refine lm_iald C (v := (σ 1 5)) 1 rfl (by unfold vp_in; decide) rfl dX7_count_109 rfl ?_
      cases hF
      exact lm_iretR C hr hk rfl dX7_count_110
    · have hF := lm_brf hF c2
      rcases Classical.em (x1 = (2 : Int32)) with c3 | c3
      · have hF := lm_brt hF c3
        refine lm_tableIn C (2 : Int32) (off := 110) (tgt := 111) dX7_count_1 c3 (by decide) (by decide) (by decide) (by decide) ?_
        refine lm_aload_n C dX7_count_111 rfl 0 rfl rfl ?_
        obtain ⟨r4, qr4, hF⟩ := lm_bde hF
        refine lm_callVR C (n := 0) (ci := 7) (m_X7_known D z zo l a σ  r4 qr4) gX7_count_X7_known rfl (by decide +kernel) ⟨Nat.le_of_ble_eq_true rfl, Nat.le_of_ble_eq_true rfl⟩ ⟨Nat.le_of_ble_eq_true rfl, Nat.le_of_ble_eq_true rfl⟩ 0 rfl rfl (fun _ h => h) rfl rfl (Nat.le_of_ble_eq_true rfl) dX7_count_112 (st' := [.int r4]) rfl rfl ?_
        cases hF
        exact lm_iretR C hr hk rfl dX7_count_115
      · have hF := lm_brf hF c3
        rcases Classical.em (x1 = (3 : Int32)) with c5 | c5
        · have hF := lm_brt hF c5
          refine lm_tableIn C (3 : Int32) (off := 115) (tgt := 116) dX7_count_1 c5 (by decide) (by decide) (by decide) (by decide) ?_
          refine lm_aload_n C dX7_count_116 rfl 0 rfl rfl ?_
          obtain ⟨r6, qr6, hF⟩ := lm_bde hF
          refine lm_callVR C (n := 0) (ci := 7) (m_X7_weights D z zo l a σ  r6 qr6) gX7_count_X7_weights rfl (by decide +kernel) ⟨Nat.le_of_ble_eq_true rfl, Nat.le_of_ble_eq_true rfl⟩ ⟨Nat.le_of_ble_eq_true rfl, Nat.le_of_ble_eq_true rfl⟩ 0 rfl rfl (fun _ h => h) rfl rfl (Nat.le_of_ble_eq_true rfl) dX7_count_117 (st' := [.int r6]) rfl rfl ?_
          cases hF
          exact lm_iretR C hr hk rfl dX7_count_120
        · have hF := lm_brf hF c5
          rcases Classical.em (x1 = (4 : Int32)) with c7 | c7
          · have hF := lm_brt hF c7
            refine lm_tableIn C (4 : Int32) (off := 120) (tgt := 121) dX7_count_1 c7 (by decide) (by decide) (by decide) (by decide) ?_
            refine lm_aload_n C dX7_count_121 rfl 0 rfl rfl ?_
            refine lm_getf C (T := TX7) (N := 14) (v := .ref (a 1)) in7_X7_count 0 rfl rfl 0 (by decide) fl7_X7_count rfl rfl dX7_count_122 rfl ?_
            refine lm_bipush C (v := (7 : Int32)) dX7_count_125 (by decide) rfl ?_
            refine lm_iload_n C dX7_count_127 rfl 1 rfl rfl ?_
            refine lm_iadd C dX7_count_128 rfl rfl ?_
            refine lm_iconst C (v := (4 : Int32)) dX7_count_129 (by decide) rfl ?_
            refine lm_isub C dX7_count_130 rfl rfl ?_
            obtain ⟨b8, hF⟩ := lm_gie hF
            refine lm_iald C (v := (σ 1 ((((7 : Int32) + x1) - (4 : Int32))).toNatClampNeg)) 1 rfl b8 rfl dX7_count_131 rfl ?_
            cases hF
            exact lm_iretR C hr hk rfl dX7_count_132
          · have hF := lm_brf hF c7
            rcases Classical.em (x1 = (5 : Int32)) with c9 | c9
            · have hF := lm_brt hF c9
              refine lm_tableIn C (5 : Int32) (off := 120) (tgt := 121) dX7_count_1 c9 (by decide) (by decide) (by decide) (by decide) ?_
              refine lm_aload_n C dX7_count_121 rfl 0 rfl rfl ?_
              refine lm_getf C (T := TX7) (N := 14) (v := .ref (a 1)) in7_X7_count 0 rfl rfl 0 (by decide) fl7_X7_count rfl rfl dX7_count_122 rfl ?_
              refine lm_bipush C (v := (7 : Int32)) dX7_count_125 (by decide) rfl ?_
              refine lm_iload_n C dX7_count_127 rfl 1 rfl rfl ?_
              refine lm_iadd C dX7_count_128 rfl rfl ?_
              refine lm_iconst C (v := (4 : Int32)) dX7_count_129 (by decide) rfl ?_
              refine lm_isub C dX7_count_130 rfl rfl ?_
              obtain ⟨b10, hF⟩ := lm_gie hF
              refine lm_iald C (v := (σ 1 ((((7 : Int32) + x1) - (4 : Int32))).toNatClampNeg)) 1 rfl b10 rfl dX7_count_131 rfl ?_
              cases hF
              exact lm_iretR C hr hk rfl dX7_count_132
            · have hF := lm_brf hF c9
              rcases Classical.em (x1 = (6 : Int32)) with c11 | c11
              · have hF := lm_brt hF c11
                refine lm_tableIn C (6 : Int32) (off := 120) (tgt := 121) dX7_count_1 c11 (by decide) (by decide) (by decide) (by decide) ?_
                refine lm_aload_n C dX7_count_121 rfl 0 rfl rfl ?_
                refine lm_getf C (T := TX7) (N := 14) (v := .ref (a 1)) in7_X7_count 0 rfl rfl 0 (by decide) fl7_X7_count rfl rfl dX7_count_122 rfl ?_
                refine lm_bipush C (v := (7 : Int32)) dX7_count_125 (by decide) rfl ?_
                refine lm_iload_n C dX7_count_127 rfl 1 rfl rfl ?_
                refine lm_iadd C dX7_count_128 rfl rfl ?_
                refine lm_iconst C (v := (4 : Int32)) dX7_count_129 (by decide) rfl ?_
                refine lm_isub C dX7_count_130 rfl rfl ?_
                obtain ⟨b12, hF⟩ := lm_gie hF
                refine lm_iald C (v := (σ 1 ((((7 : Int32) + x1) - (4 : Int32))).toNatClampNeg)) 1 rfl b12 rfl dX7_count_131 rfl ?_
                cases hF
                exact lm_iretR C hr hk rfl dX7_count_132
              · have hF := lm_brf hF c11
                rcases Classical.em (x1 = (7 : Int32)) with c13 | c13
                · have hF := lm_brt hF c13
                  refine lm_tableIn C (7 : Int32) (off := 120) (tgt := 121) dX7_count_1 c13 (by decide) (by decide) (by decide) (by decide) ?_
                  refine lm_aload_n C dX7_count_121 rfl 0 rfl rfl ?_
                  refine lm_getf C (T := TX7) (N := 14) (v := .ref (a 1)) in7_X7_count 0 rfl rfl 0 (by decide) fl7_X7_count rfl rfl dX7_count_122 rfl ?_
                  refine lm_bipush C (v := (7 : Int32)) dX7_count_125 (by decide) rfl ?_
                  refine lm_iload_n C dX7_count_127 rfl 1 rfl rfl ?_
                  refine lm_iadd C dX7_count_128 rfl rfl ?_
                  refine lm_iconst C (v := (4 : Int32)) dX7_count_129 (by decide) rfl ?_
                  refine lm_isub C dX7_count_130 rfl rfl ?_
                  obtain ⟨b14, hF⟩ := lm_gie hF
                  refine lm_iald C (v := (σ 1 ((((7 : Int32) + x1) - (4 : Int32))).toNatClampNeg)) 1 rfl b14 rfl dX7_count_131 rfl ?_
                  cases hF
                  exact lm_iretR C hr hk rfl dX7_count_132
                · have hF := lm_brf hF c13
                  rcases Classical.em (x1 = (8 : Int32)) with c15 | c15
                  · have hF := lm_brt hF c15
                    refine lm_tableIn C (8 : Int32) (off := 120) (tgt := 121) dX7_count_1 c15 (by decide) (by decide) (by decide) (by decide) ?_
                    refine lm_aload_n C dX7_count_121 rfl 0 rfl rfl ?_
                    refine lm_getf C (T := TX7) (N := 14) (v := .ref (a 1)) in7_X7_count 0 rfl rfl 0 (by decide) fl7_X7_count rfl rfl dX7_count_122 rfl ?_
                    refine lm_bipush C (v := (7 : Int32)) dX7_count_125 (by decide) rfl ?_
                    refine lm_iload_n C dX7_count_127 rfl 1 rfl rfl ?_
                    refine lm_iadd C dX7_count_128 rfl rfl ?_
                    refine lm_iconst C (v := (4 : Int32)) dX7_count_129 (by decide) rfl ?_
                    refine lm_isub C dX7_count_130 rfl rfl ?_
                    obtain ⟨b16, hF⟩ := lm_gie hF
                    refine lm_iald C (v := (σ 1 ((((7 : Int32) + x1) - (4 : Int32))).toNatClampNeg)) 1 rfl b16 rfl dX7_count_131 rfl ?_
                    cases hF
                    exact lm_iretR C hr hk rfl dX7_count_132
                  · have hF := lm_brf hF c15
                    rcases Classical.em (x1 = (9 : Int32)) with c17 | c17
                    · have hF := lm_brt hF c17
                      refine lm_tableIn C (9 : Int32) (off := 120) (tgt := 121) dX7_count_1 c17 (by decide) (by decide) (by decide) (by decide) ?_
                      refine lm_aload_n C dX7_count_121 rfl 0 rfl rfl ?_
                      refine lm_getf C (T := TX7) (N := 14) (v := .ref (a 1)) in7_X7_count 0 rfl rfl 0 (by decide) fl7_X7_count rfl rfl dX7_count_122 rfl ?_
                      refine lm_bipush C (v := (7 : Int32)) dX7_count_125 (by decide) rfl ?_
                      refine lm_iload_n C dX7_count_127 rfl 1 rfl rfl ?_
                      refine lm_iadd C dX7_count_128 rfl rfl ?_
                      refine lm_iconst C (v := (4 : Int32)) dX7_count_129 (by decide) rfl ?_
                      refine lm_isub C dX7_count_130 rfl rfl ?_
                      obtain ⟨b18, hF⟩ := lm_gie hF
                      refine lm_iald C (v := (σ 1 ((((7 : Int32) + x1) - (4 : Int32))).toNatClampNeg)) 1 rfl b18 rfl dX7_count_131 rfl ?_
                      cases hF
                      exact lm_iretR C hr hk rfl dX7_count_132
                    · have hF := lm_brf hF c17
                      rcases Classical.em (x1 = (10 : Int32)) with c19 | c19
                      · have hF := lm_brt hF c19
                        refine lm_tableIn C (10 : Int32) (off := 120) (tgt := 121) dX7_count_1 c19 (by decide) (by decide) (by decide) (by decide) ?_
                        refine lm_aload_n C dX7_count_121 rfl 0 rfl rfl ?_
                        refine lm_getf C (T := TX7) (N := 14) (v := .ref (a 1)) in7_X7_count 0 rfl rfl 0 (by decide) fl7_X7_count rfl rfl dX7_count_122 rfl ?_
                        refine lm_bipush C (v := (7 : Int32)) dX7_count_125 (by decide) rfl ?_
                        refine lm_iload_n C dX7_count_127 rfl 1 rfl rfl ?_
                        refine lm_iadd C dX7_count_128 rfl rfl ?_
                        refine lm_iconst C (v := (4 : Int32)) dX7_count_129 (by decide) rfl ?_
                        refine lm_isub C dX7_count_130 rfl rfl ?_
                        obtain ⟨b20, hF⟩ := lm_gie hF
                        refine lm_iald C (v := (σ 1 ((((7 : Int32) + x1) - (4 : Int32))).toNatClampNeg)) 1 rfl b20 rfl dX7_count_131 rfl ?_
                        cases hF
                        exact lm_iretR C hr hk rfl dX7_count_132
                      · have hF := lm_brf hF c19
                        rcases Classical.em (x1 = (11 : Int32)) with c21 | c21
                        · have hF := lm_brt hF c21
                          refine lm_tableIn C (11 : Int32) (off := 120) (tgt := 121) dX7_count_1 c21 (by decide) (by decide) (by decide) (by decide) ?_
                          refine lm_aload_n C dX7_count_121 rfl 0 rfl rfl ?_
                          refine lm_getf C (T := TX7) (N := 14) (v := .ref (a 1)) in7_X7_count 0 rfl rfl 0 (by decide) fl7_X7_count rfl rfl dX7_count_122 rfl ?_
                          refine lm_bipush C (v := (7 : Int32)) dX7_count_125 (by decide) rfl ?_
                          refine lm_iload_n C dX7_count_127 rfl 1 rfl rfl ?_
                          refine lm_iadd C dX7_count_128 rfl rfl ?_
                          refine lm_iconst C (v := (4 : Int32)) dX7_count_129 (by decide) rfl ?_
                          refine lm_isub C dX7_count_130 rfl rfl ?_
                          obtain ⟨b22, hF⟩ := lm_gie hF
                          refine lm_iald C (v := (σ 1 ((((7 : Int32) + x1) - (4 : Int32))).toNatClampNeg)) 1 rfl b22 rfl dX7_count_131 rfl ?_
                          cases hF
                          exact lm_iretR C hr hk rfl dX7_count_132
                        · have hF := lm_brf hF c21
                          rcases Classical.em (x1 = (12 : Int32)) with c23 | c23
                          · have hF := lm_brt hF c23
                            refine lm_tableIn C (12 : Int32) (off := 120) (tgt := 121) dX7_count_1 c23 (by decide) (by decide) (by decide) (by decide) ?_
                            refine lm_aload_n C dX7_count_121 rfl 0 rfl rfl ?_
                            refine lm_getf C (T := TX7) (N := 14) (v := .ref (a 1)) in7_X7_count 0 rfl rfl 0 (by decide) fl7_X7_count rfl rfl dX7_count_122 rfl ?_
                            refine lm_bipush C (v := (7 : Int32)) dX7_count_125 (by decide) rfl ?_
                            refine lm_iload_n C dX7_count_127 rfl 1 rfl rfl ?_
                            refine lm_iadd C dX7_count_128 rfl rfl ?_
                            refine lm_iconst C (v := (4 : Int32)) dX7_count_129 (by decide) rfl ?_
                            refine lm_isub C dX7_count_130 rfl rfl ?_
                            obtain ⟨b24, hF⟩ := lm_gie hF
                            refine lm_iald C (v := (σ 1 ((((7 : Int32) + x1) - (4 : Int32))).toNatClampNeg)) 1 rfl b24 rfl dX7_count_131 rfl ?_
                            cases hF
                            exact lm_iretR C hr hk rfl dX7_count_132
                          · have hF := lm_brf hF c23
                            rcases Classical.em (x1 = (13 : Int32)) with c25 | c25
                            · have hF := lm_brt hF c25
                              refine lm_tableIn C (13 : Int32) (off := 132) (tgt := 133) dX7_count_1 c25 (by decide) (by decide) (by decide) (by decide) ?_
                              refine lm_aload_n C dX7_count_133 rfl 0 rfl rfl ?_
                              refine lm_getf C (T := TX7) (N := 14) (v := .ref (a 1)) in7_X7_count 0 rfl rfl 0 (by decide) fl7_X7_count rfl rfl dX7_count_134 rfl ?_
                              refine lm_iload_n C dX7_count_137 rfl 1 rfl rfl ?_
                              refine lm_bipush C (v := (13 : Int32)) dX7_count_138 (by decide) rfl ?_
                              refine lm_isub C dX7_count_140 rfl rfl ?_
                              obtain ⟨b26, hF⟩ := lm_gie hF
                              refine lm_iald C (v := (σ 1 ((x1 - (13 : Int32))).toNatClampNeg)) 1 rfl b26 rfl dX7_count_141 rfl ?_
                              cases hF
                              exact lm_iretR C hr hk rfl dX7_count_142
                            · have hF := lm_brf hF c25
                              rcases Classical.em (x1 = (14 : Int32)) with c27 | c27
                              · have hF := lm_brt hF c27
                                refine lm_tableIn C (14 : Int32) (off := 132) (tgt := 133) dX7_count_1 c27 (by decide) (by decide) (by decide) (by decide) ?_
                                refine lm_aload_n C dX7_count_133 rfl 0 rfl rfl ?_
                                refine lm_getf C (T := TX7) (N := 14) (v := .ref (a 1)) in7_X7_count 0 rfl rfl 0 (by decide) fl7_X7_count rfl rfl dX7_count_134 rfl ?_
                                refine lm_iload_n C dX7_count_137 rfl 1 rfl rfl ?_
                                refine lm_bipush C (v := (13 : Int32)) dX7_count_138 (by decide) rfl ?_
                                refine lm_isub C dX7_count_140 rfl rfl ?_
                                obtain ⟨b28, hF⟩ := lm_gie hF
                                refine lm_iald C (v := (σ 1 ((x1 - (13 : Int32))).toNatClampNeg)) 1 rfl b28 rfl dX7_count_141 rfl ?_
                                cases hF
                                exact lm_iretR C hr hk rfl dX7_count_142
                              · have hF := lm_brf hF c27
                                rcases Classical.em (x1 = (15 : Int32)) with c29 | c29
                                · have hF := lm_brt hF c29
                                  refine lm_tableIn C (15 : Int32) (off := 132) (tgt := 133) dX7_count_1 c29 (by decide) (by decide) (by decide) (by decide) ?_
                                  refine lm_aload_n C dX7_count_133 rfl 0 rfl rfl ?_
                                  refine lm_getf C (T := TX7) (N := 14) (v := .ref (a 1)) in7_X7_count 0 rfl rfl 0 (by decide) fl7_X7_count rfl rfl dX7_count_134 rfl ?_
                                  refine lm_iload_n C dX7_count_137 rfl 1 rfl rfl ?_
                                  refine lm_bipush C (v := (13 : Int32)) dX7_count_138 (by decide) rfl ?_
                                  refine lm_isub C dX7_count_140 rfl rfl ?_
                                  obtain ⟨b30, hF⟩ := lm_gie hF
                                  refine lm_iald C (v := (σ 1 ((x1 - (13 : Int32))).toNatClampNeg)) 1 rfl b30 rfl dX7_count_141 rfl ?_
                                  cases hF
                                  exact lm_iretR C hr hk rfl dX7_count_142
                                · have hF := lm_brf hF c29
                                  rcases Classical.em (x1 = (16 : Int32)) with c31 | c31
                                  · have hF := lm_brt hF c31
                                    refine lm_tableIn C (16 : Int32) (off := 132) (tgt := 133) dX7_count_1 c31 (by decide) (by decide) (by decide) (by decide) ?_
                                    refine lm_aload_n C dX7_count_133 rfl 0 rfl rfl ?_
                                    refine lm_getf C (T := TX7) (N := 14) (v := .ref (a 1)) in7_X7_count 0 rfl rfl 0 (by decide) fl7_X7_count rfl rfl dX7_count_134 rfl ?_
                                    refine lm_iload_n C dX7_count_137 rfl 1 rfl rfl ?_
                                    refine lm_bipush C (v := (13 : Int32)) dX7_count_138 (by decide) rfl ?_
                                    refine lm_isub C dX7_count_140 rfl rfl ?_
                                    obtain ⟨b32, hF⟩ := lm_gie hF
                                    refine lm_iald C (v := (σ 1 ((x1 - (13 : Int32))).toNatClampNeg)) 1 rfl b32 rfl dX7_count_141 rfl ?_
                                    cases hF
                                    exact lm_iretR C hr hk rfl dX7_count_142
                                  · have hF := lm_brf hF c31
                                    rcases Classical.em (x1 = (17 : Int32)) with c33 | c33
                                    · have hF := lm_brt hF c33
                                      refine lm_tableIn C (17 : Int32) (off := 132) (tgt := 133) dX7_count_1 c33 (by decide) (by decide) (by decide) (by decide) ?_
                                      refine lm_aload_n C dX7_count_133 rfl 0 rfl rfl ?_
                                      refine lm_getf C (T := TX7) (N := 14) (v := .ref (a 1)) in7_X7_count 0 rfl rfl 0 (by decide) fl7_X7_count rfl rfl dX7_count_134 rfl ?_
                                      refine lm_iload_n C dX7_count_137 rfl 1 rfl rfl ?_
                                      refine lm_bipush C (v := (13 : Int32)) dX7_count_138 (by decide) rfl ?_
                                      refine lm_isub C dX7_count_140 rfl rfl ?_
                                      obtain ⟨b34, hF⟩ := lm_gie hF
                                      refine lm_iald C (v := (σ 1 ((x1 - (13 : Int32))).toNatClampNeg)) 1 rfl b34 rfl dX7_count_141 rfl ?_
                                      cases hF
                                      exact lm_iretR C hr hk rfl dX7_count_142
                                    · have hF := lm_brf hF c33
                                      rcases Classical.em (x1 = (18 : Int32)) with c35 | c35
                                      · have hF := lm_brt hF c35
                                        refine lm_tableIn C (18 : Int32) (off := 142) (tgt := 143) dX7_count_1 c35 (by decide) (by decide) (by decide) (by decide) ?_
                                        refine lm_aload_n C dX7_count_143 rfl 0 rfl rfl ?_
                                        refine lm_getf C (T := TX7) (N := 14) (v := .int (σ 0 8)) in7_X7_count 0 rfl rfl 8 (by decide) fl122_X7_count rfl rfl dX7_count_144 rfl ?_
                                        cases hF
                                        exact lm_iretR C hr hk rfl dX7_count_147
                                      · have hF := lm_brf hF c35
                                        rcases Classical.em (x1 = (19 : Int32)) with c36 | c36
                                        · have hF := lm_brt hF c36
                                          refine lm_tableIn C (19 : Int32) (off := 147) (tgt := 148) dX7_count_1 c36 (by decide) (by decide) (by decide) (by decide) ?_
                                          refine lm_aload_n C dX7_count_148 rfl 0 rfl rfl ?_
                                          refine lm_getf C (T := TX7) (N := 14) (v := .int (σ 0 5)) in7_X7_count 0 rfl rfl 5 (by decide) fl35_X7_count rfl rfl dX7_count_149 rfl ?_
                                          cases hF
                                          exact lm_iretR C hr hk rfl dX7_count_152
                                        · have hF := lm_brf hF c36
                                          refine lm_tableOut C (tgt := 153) dX7_count_1 (by have nc1 := lv_neT c1 (a := 0) (by decide); have nc2 := lv_neT c2 (a := 1) (by decide); have nc3 := lv_neT c3 (a := 2) (by decide); have nc5 := lv_neT c5 (a := 3) (by decide); have nc7 := lv_neT c7 (a := 4) (by decide); have nc9 := lv_neT c9 (a := 5) (by decide); have nc11 := lv_neT c11 (a := 6) (by decide); have nc13 := lv_neT c13 (a := 7) (by decide); have nc15 := lv_neT c15 (a := 8) (by decide); have nc17 := lv_neT c17 (a := 9) (by decide); have nc19 := lv_neT c19 (a := 10) (by decide); have nc21 := lv_neT c21 (a := 11) (by decide); have nc23 := lv_neT c23 (a := 12) (by decide); have nc25 := lv_neT c25 (a := 13) (by decide); have nc27 := lv_neT c27 (a := 14) (by decide); have nc29 := lv_neT c29 (a := 15) (by decide); have nc31 := lv_neT c31 (a := 16) (by decide); have nc33 := lv_neT c33 (a := 17) (by decide); have nc35 := lv_neT c35 (a := 18) (by decide); have nc36 := lv_neT c36 (a := 19) (by decide); omega) (by decide) ?_
                                          refine lm_iconst C (v := (-1 : Int32)) dX7_count_153 (by decide) rfl ?_
                                          cases hF
                                          exact lm_iretR C hr hk rfl dX7_count_154
def F_X7_total_L15 : Nat → Hp → Int32 → Int32 → Option Int32
  | 0, _, _, _ => none
  | n + 1, σx, x2, x3 =>
    lm_br ((σx 1 6) ≤ x3)
     (some x2)
     (lm_gi (((57 : Int32) + ((2 : Int32) * x3)) + (1 : Int32)) 127
     (lm_gi ((57 : Int32) + ((2 : Int32) * x3)) 127
     (lm_bd (F_X7_sum σx (σx 1 (((57 : Int32) + ((2 : Int32) * x3))).toNatClampNeg)) fun r6 =>
     lm_lt (x2 + ((σx 1 ((((57 : Int32) + ((2 : Int32) * x3)) + (1 : Int32))).toNatClampNeg) * r6)) fun t7 =>
     F_X7_total_L15 n σx t7 (x3 + (1 : Int32)))))
def F_X7_total (σ : Hp) (x1 : Int32) : Option Int32 :=
  lm_bd (F_X7_in x1 (0 : Int32) (1 : Int32)) fun r1 =>
  lm_br (¬ r1 = 0)
   (F_X7_total_L15 1000 σ (0 : Int32) (0 : Int32))
   (some (-1 : Int32))
theorem in7_X7_total : ∀ w ∈ u_ws RX7 TX7 14, w ∈ wsX7_total := by decide +kernel
theorem fl7_X7_total : Cond.fieldLink RX7 7 "LoopMemoModel" "s" "[I" ∈ wsX7_total := by decide +kernel
set_option maxRecDepth 100000 in
set_option maxHeartbeats 4000000 in
theorem m_X7_total (D : va_G) (z zo : ClassId) (l : Launch) (a : Nat → Nat) (σ : Hp) (x1 : Int32) (r : Int32)  (hF : F_X7_total σ x1 = some r) : lm_CR D z zo l yX7_total wsX7_total 3 67 [.ref (a 0), .int x1] (mdW z a σ) (some (.int r)) := by
  refine lm_CR.of (by decide) rfl (Nat.le_of_ble_eq_true rfl) (own := RX7) rfl ?_
  intro p e s m_ args below meth c C hr hk
  have loop_15 : ∀ (n : Nat) (σx : Hp) (x2 : Int32) (x3 : Int32), F_X7_total_L15 n σx x2 x3 = some r → lm_St p l e ({ frames := 3, cells := 0, slots := 0, locals := 67 }) s m_ args below meth c D (fun _ => False) 4 0 0 (lm_EndR below (some (.int r)) args s) true (mdW z a σx) 15 [(0, .ref (a 0)), (2, .int x2), (3, .int x3)] [] := by
    intro n
    induction n with
    | zero => intro σx x2 x3 hF; cases (show (none : Option _) = some _ from hF)
    | succ n ih =>
      intro σx x2 x3 hF
      rw [F_X7_total_L15] at hF
      refine lm_iload_n C dX7_total_15 rfl 2 rfl rfl ?_
      refine lm_aload_n C dX7_total_16 rfl 0 rfl rfl ?_
      refine lm_getf C (T := TX7) (N := 14) (v := .ref (a 1)) in7_X7_total 0 rfl rfl 0 (by decide) fl7_X7_total rfl rfl dX7_total_17 rfl ?_
      refine lm_bipush C (v := (6 : Int32)) dX7_total_20 (by decide) rfl ?_
      refine lm_iald C (v := (σx 1 6)) 1 rfl (by unfold vp_in; decide) rfl dX7_total_22 rfl ?_
      refine lm_icmp_ge C (tgt := 64) dX7_total_23 (by decide) rfl (fun c3 => ?_) (fun c3 => ?_)
      · have hF := lm_brt hF c3
        refine lm_iload_n C dX7_total_64 rfl 1 rfl rfl ?_
        cases hF
        exact lm_iretR C hr hk rfl dX7_total_65
      · have hF := lm_brf hF c3
        refine lm_iload_n C dX7_total_26 rfl 1 rfl rfl ?_
        refine lm_aload_n C dX7_total_27 rfl 0 rfl rfl ?_
        refine lm_getf C (T := TX7) (N := 14) (v := .ref (a 1)) in7_X7_total 0 rfl rfl 0 (by decide) fl7_X7_total rfl rfl dX7_total_28 rfl ?_
        refine lm_bipush C (v := (57 : Int32)) dX7_total_31 (by decide) rfl ?_
        refine lm_iconst C (v := (2 : Int32)) dX7_total_33 (by decide) rfl ?_
        refine lm_iload_n C dX7_total_34 rfl 2 rfl rfl ?_
        refine lm_imul C dX7_total_35 rfl rfl ?_
        refine lm_iadd C dX7_total_36 rfl rfl ?_
        refine lm_iconst C (v := (1 : Int32)) dX7_total_37 (by decide) rfl ?_
        refine lm_iadd C dX7_total_38 rfl rfl ?_
        obtain ⟨b4, hF⟩ := lm_gie hF
        refine lm_iald C (v := (σx 1 ((((57 : Int32) + ((2 : Int32) * x3)) + (1 : Int32))).toNatClampNeg)) 1 rfl b4 rfl dX7_total_39 rfl ?_
        refine lm_aload_n C dX7_total_40 rfl 0 rfl rfl ?_
        refine lm_aload_n C dX7_total_41 rfl 0 rfl rfl ?_
        refine lm_getf C (T := TX7) (N := 14) (v := .ref (a 1)) in7_X7_total 0 rfl rfl 0 (by decide) fl7_X7_total rfl rfl dX7_total_42 rfl ?_
        refine lm_bipush C (v := (57 : Int32)) dX7_total_45 (by decide) rfl ?_
        refine lm_iconst C (v := (2 : Int32)) dX7_total_47 (by decide) rfl ?_
        refine lm_iload_n C dX7_total_48 rfl 2 rfl rfl ?_
        refine lm_imul C dX7_total_49 rfl rfl ?_
        refine lm_iadd C dX7_total_50 rfl rfl ?_
        obtain ⟨b5, hF⟩ := lm_gie hF
        refine lm_iald C (v := (σx 1 (((57 : Int32) + ((2 : Int32) * x3))).toNatClampNeg)) 1 rfl b5 rfl dX7_total_51 rfl ?_
        obtain ⟨r6, qr6, hF⟩ := lm_bde hF
        refine lm_callVR C (n := 1) (ci := 7) (m_X7_sum D z zo l a σx (σx 1 (((57 : Int32) + ((2 : Int32) * x3))).toNatClampNeg) r6 qr6) gX7_total_X7_sum rfl (by decide +kernel) ⟨Nat.le_of_ble_eq_true rfl, Nat.le_of_ble_eq_true rfl⟩ ⟨Nat.le_of_ble_eq_true rfl, Nat.le_of_ble_eq_true rfl⟩ 0 rfl rfl (fun _ h => h) rfl rfl (Nat.le_of_ble_eq_true rfl) dX7_total_52 (st' := [.int r6, .int (σx 1 ((((57 : Int32) + ((2 : Int32) * x3)) + (1 : Int32))).toNatClampNeg), .int x2]) rfl rfl ?_
        refine lm_imul C dX7_total_55 rfl rfl ?_
        refine lm_iadd C dX7_total_56 rfl rfl ?_
        obtain ⟨t7, et7, hF⟩ := lm_lte hF
        rw [et7]
        refine lm_istore_n C (lv' := [(0, .ref (a 0)), (2, .int t7), (3, .int x3)]) dX7_total_57 rfl (by decide) rfl [1, 0, 2] rfl rfl ?_
        refine lm_iinc C (lv' := [(0, .ref (a 0)), (2, .int t7), (3, .int (x3 + (1 : Int32)))]) (x3 + (1 : Int32)) dX7_total_58 2 rfl rfl (by decide) rfl [1, 2, 0] rfl rfl ?_
        refine lm_goto C (tgt := 15) dX7_total_61 (by decide) ?_
        exact ih σx t7 (x3 + (1 : Int32)) hF
  show lm_St p l e ({ frames := 3, cells := 0, slots := 0, locals := 67 }) s m_ args below meth c D (fun _ => False) 4 0 0 (lm_EndR below (some (.int r)) args s) true (mdW z a σ) 0 [(0, .ref (a 0)), (1, .int x1)] []
  rw [F_X7_total] at hF
  refine lm_iload_n C dX7_total_0 rfl 1 rfl rfl ?_
  refine lm_iconst C (v := (0 : Int32)) dX7_total_1 (by decide) rfl ?_
  refine lm_iconst C (v := (1 : Int32)) dX7_total_2 (by decide) rfl ?_
  obtain ⟨r1, qr1, hF⟩ := lm_bde hF
  refine lm_callSR C (n := 3) (m_X7_in D z zo l   x1 (0 : Int32) (1 : Int32) r1 qr1) gX7_total_X7_in rfl (by decide +kernel) ⟨Nat.le_of_ble_eq_true rfl, Nat.le_of_ble_eq_true rfl⟩ ⟨Nat.le_of_ble_eq_true rfl, Nat.le_of_ble_eq_true rfl⟩ (fun _ h => absurd h List.not_mem_nil) rfl rfl (Nat.le_of_ble_eq_true rfl) dX7_total_3 (st' := [.int r1]) rfl rfl ?_
  refine lm_if_ne C (tgt := 11) dX7_total_6 (by decide) rfl (fun c2 => ?_) (fun c2 => ?_)
  · have hF := lm_brt hF c2
    refine lm_iconst C (v := (0 : Int32)) dX7_total_11 (by decide) rfl ?_
    refine lm_istore_n C (lv' := [(0, .ref (a 0)), (1, .int x1), (2, .int (0 : Int32))]) dX7_total_12 rfl (by decide) rfl [1, 2, 0] rfl rfl ?_
    refine lm_iconst C (v := (0 : Int32)) dX7_total_13 (by decide) rfl ?_
    refine lm_istore_n C (lv' := [(0, .ref (a 0)), (1, .int x1), (2, .int (0 : Int32)), (3, .int (0 : Int32))]) dX7_total_14 rfl (by decide) rfl [1, 2, 3, 0] rfl rfl ?_
    refine lm_lvsub (lv' := [(0, .ref (a 0)), (2, .int (0 : Int32)), (3, .int (0 : Int32))]) [0, 2, 3] rfl ?_
    exact loop_15 1000 σ (0 : Int32) (0 : Int32) hF
  · have hF := lm_brf hF c2
    refine lm_iconst C (v := (-1 : Int32)) dX7_total_9 (by decide) rfl ?_
    cases hF
    exact lm_iretR C hr hk rfl dX7_total_10
def F_X7_ifBound (σ : Hp) (x1 x2 : Int32) : Option (Int32 × (Hp)) :=
  lm_bd (F_X7_in x1 (0 : Int32) (60 : Int32)) fun r1 =>
  lm_br (r1 = 0)
   (some ((-1 : Int32), σ))
   (lm_bd (F_X7_in x2 (0 : Int32) (3 : Int32)) fun r3 =>
   lm_br (¬ r3 = 0)
    (lm_bd (F_X7_putsAside σ) fun σ5 =>
    lm_b2 (F_X7_sets σ5 (0 : Int32) x1) fun r7 σ6 =>
    lm_br (0 ≤ r7)
     (lm_b2 (F_X7_steps σ6 (20 : Int32)) fun r10 σ9 =>
     lm_br (¬ x2 = 0)
      (lm_br (¬ x2 = (1 : Int32))
       (lm_br (¬ x2 = (2 : Int32))
        (lm_bd (F_X7_putsBack σ9) fun σ14 =>
        some (((σ9 1 12) - (σ 1 12)), σ14))
        (lm_bd (F_X7_putsBack σ9) fun σ15 =>
        some (((σ9 1 10) - (σ 1 10)), σ15)))
       (lm_bd (F_X7_putsBack σ9) fun σ16 =>
       some (((σ9 1 9) - (σ 1 9)), σ16)))
      (lm_bd (F_X7_putsBack σ9) fun σ17 =>
      some (r10, σ17)))
     (lm_b2 (F_X7_steps σ6 r7) fun r19 σ18 =>
     lm_br (¬ x2 = 0)
      (lm_br (¬ x2 = (1 : Int32))
       (lm_br (¬ x2 = (2 : Int32))
        (lm_bd (F_X7_putsBack σ18) fun σ23 =>
        some (((σ18 1 12) - (σ 1 12)), σ23))
        (lm_bd (F_X7_putsBack σ18) fun σ24 =>
        some (((σ18 1 10) - (σ 1 10)), σ24)))
       (lm_bd (F_X7_putsBack σ18) fun σ25 =>
       some (((σ18 1 9) - (σ 1 9)), σ25)))
      (lm_bd (F_X7_putsBack σ18) fun σ26 =>
      some (r19, σ26))))
    (some ((-1 : Int32), σ)))
theorem in7_X7_ifBound : ∀ w ∈ u_ws RX7 TX7 14, w ∈ wsX7_ifBound := by decide +kernel
theorem fl7_X7_ifBound : Cond.fieldLink RX7 7 "LoopMemoModel" "s" "[I" ∈ wsX7_ifBound := by decide +kernel
set_option maxRecDepth 100000 in
set_option maxHeartbeats 4000000 in
theorem m_X7_ifBound (D : va_G) (z zo : ClassId) (l : Launch) (a : Nat → Nat) (σ : Hp) (x1 x2 : Int32) (r : Int32) (σ' : Hp) (hF : F_X7_ifBound σ x1 x2 = some (r, σ')) : lm_C D z zo l yX7_ifBound wsX7_ifBound 8 178 [.ref (a 0), .int x1, .int x2] (mdW z a σ) (some (.int r)) (mdW z a σ') := by
  refine lm_C.of (by decide) rfl (Nat.le_of_ble_eq_true rfl) (own := RX7) rfl ?_
  intro p e s m_ args below meth c C hr hk hA
  show lm_St p l e ({ frames := 8, cells := 0, slots := 0, locals := 178 }) s m_ args below meth c D (va_A (mdW z a σ) s.heap.size) 9 0 0 (lm_End below D (some (.int r)) (mdW z a σ) (mdW z a σ') args s) false (mdW z a σ) 0 [(0, .ref (a 0)), (1, .int x1), (2, .int x2)] []
  rw [F_X7_ifBound] at hF
  refine lm_iload_n C dX7_ifBound_0 rfl 1 rfl rfl ?_
  refine lm_iconst C (v := (0 : Int32)) dX7_ifBound_1 (by decide) rfl ?_
  refine lm_bipush C (v := (60 : Int32)) dX7_ifBound_2 (by decide) rfl ?_
  obtain ⟨r1, qr1, hF⟩ := lm_bde hF
  refine lm_callSR C (n := 3) (m_X7_in D z zo l   x1 (0 : Int32) (60 : Int32) r1 qr1) gX7_ifBound_X7_in rfl (by decide +kernel) ⟨Nat.le_of_ble_eq_true rfl, Nat.le_of_ble_eq_true rfl⟩ ⟨Nat.le_of_ble_eq_true rfl, Nat.le_of_ble_eq_true rfl⟩ (fun _ h => absurd h List.not_mem_nil) rfl rfl (Nat.le_of_ble_eq_true rfl) dX7_ifBound_4 (st' := [.int r1]) rfl rfl ?_
  refine lm_if_eq C (tgt := 19) dX7_ifBound_7 (by decide) rfl (fun c2 => ?_) (fun c2 => ?_)
  · have hF := lm_brt hF c2
    refine lm_iconst C (v := (-1 : Int32)) dX7_ifBound_19 (by decide) rfl ?_
    cases hF
    exact lm_iret C hr hk rfl rfl dX7_ifBound_20
  · have hF := lm_brf hF c2
    refine lm_iload_n C dX7_ifBound_10 rfl 2 rfl rfl ?_
    refine lm_iconst C (v := (0 : Int32)) dX7_ifBound_11 (by decide) rfl ?_
    refine lm_iconst C (v := (3 : Int32)) dX7_ifBound_12 (by decide) rfl ?_
    obtain ⟨r3, qr3, hF⟩ := lm_bde hF
    refine lm_callSR C (n := 3) (m_X7_in D z zo l   x2 (0 : Int32) (3 : Int32) r3 qr3) gX7_ifBound_X7_in rfl (by decide +kernel) ⟨Nat.le_of_ble_eq_true rfl, Nat.le_of_ble_eq_true rfl⟩ ⟨Nat.le_of_ble_eq_true rfl, Nat.le_of_ble_eq_true rfl⟩ (fun _ h => absurd h List.not_mem_nil) rfl rfl (Nat.le_of_ble_eq_true rfl) dX7_ifBound_13 (st' := [.int r3]) rfl rfl ?_
    refine lm_if_ne C (tgt := 21) dX7_ifBound_16 (by decide) rfl (fun c4 => ?_) (fun c4 => ?_)
    · have hF := lm_brt hF c4
      refine lm_aload_n C dX7_ifBound_21 rfl 0 rfl rfl ?_
      refine lm_getf C (T := TX7) (N := 14) (v := .ref (a 1)) in7_X7_ifBound 0 rfl rfl 0 (by decide) fl7_X7_ifBound rfl rfl dX7_ifBound_22 rfl ?_
      refine lm_bipush C (v := (9 : Int32)) dX7_ifBound_25 (by decide) rfl ?_
      refine lm_iald C (v := (σ 1 9)) 1 rfl (by unfold vp_in; decide) rfl dX7_ifBound_27 rfl ?_
      refine lm_istore_n C (lv' := [(0, .ref (a 0)), (1, .int x1), (2, .int x2), (3, .int (σ 1 9))]) dX7_ifBound_28 rfl (by decide) rfl [1, 2, 3, 0] rfl rfl ?_
      refine lm_aload_n C dX7_ifBound_29 rfl 0 rfl rfl ?_
      refine lm_getf C (T := TX7) (N := 14) (v := .ref (a 1)) in7_X7_ifBound 0 rfl rfl 0 (by decide) fl7_X7_ifBound rfl rfl dX7_ifBound_30 rfl ?_
      refine lm_bipush C (v := (10 : Int32)) dX7_ifBound_33 (by decide) rfl ?_
      refine lm_iald C (v := (σ 1 10)) 1 rfl (by unfold vp_in; decide) rfl dX7_ifBound_35 rfl ?_
      refine lm_istore C (lv' := [(0, .ref (a 0)), (1, .int x1), (2, .int x2), (3, .int (σ 1 9)), (4, .int (σ 1 10))]) dX7_ifBound_36 (by decide) rfl [1, 2, 3, 4, 0] rfl rfl ?_
      refine lm_aload_n C dX7_ifBound_38 rfl 0 rfl rfl ?_
      refine lm_getf C (T := TX7) (N := 14) (v := .ref (a 1)) in7_X7_ifBound 0 rfl rfl 0 (by decide) fl7_X7_ifBound rfl rfl dX7_ifBound_39 rfl ?_
      refine lm_bipush C (v := (12 : Int32)) dX7_ifBound_42 (by decide) rfl ?_
      refine lm_iald C (v := (σ 1 12)) 1 rfl (by unfold vp_in; decide) rfl dX7_ifBound_44 rfl ?_
      refine lm_istore C (lv' := [(0, .ref (a 0)), (1, .int x1), (2, .int x2), (3, .int (σ 1 9)), (4, .int (σ 1 10)), (5, .int (σ 1 12))]) dX7_ifBound_45 (by decide) rfl [1, 2, 3, 4, 5, 0] rfl rfl ?_
      refine lm_aload_n C dX7_ifBound_47 rfl 0 rfl rfl ?_
      obtain ⟨σ5, qσ5, hF⟩ := lm_bde hF
      refine lm_callV C (n := 0) (ci := 7) (w' := (mdW z a σ5)) hA (m_X7_putsAside D z zo l a σ  σ5 qσ5) gX7_ifBound_X7_putsAside rfl (by decide +kernel) ⟨Nat.le_of_ble_eq_true rfl, Nat.le_of_ble_eq_true rfl⟩ ⟨Nat.le_of_ble_eq_true rfl, Nat.le_of_ble_eq_true rfl⟩ 0 rfl rfl lm_pr lm_pr' rfl rfl (Nat.le_of_ble_eq_true rfl) dX7_ifBound_48 (st' := []) rfl rfl ?_
      refine lm_aload_n C dX7_ifBound_51 rfl 0 rfl rfl ?_
      refine lm_iconst C (v := (0 : Int32)) dX7_ifBound_52 (by decide) rfl ?_
      refine lm_iload_n C dX7_ifBound_53 rfl 1 rfl rfl ?_
      obtain ⟨r7, σ6, qσ6, hF⟩ := lm_b2e hF
      refine lm_callV C (n := 2) (ci := 7) (w' := (mdW z a σ6)) hA (m_X7_sets D z zo l a σ5 (0 : Int32) x1 r7 σ6 qσ6) gX7_ifBound_X7_sets rfl (by decide +kernel) ⟨Nat.le_of_ble_eq_true rfl, Nat.le_of_ble_eq_true rfl⟩ ⟨Nat.le_of_ble_eq_true rfl, Nat.le_of_ble_eq_true rfl⟩ 0 rfl rfl lm_pr lm_pr' rfl rfl (Nat.le_of_ble_eq_true rfl) dX7_ifBound_54 (st' := [.int r7]) rfl rfl ?_
      refine lm_istore C (lv' := [(0, .ref (a 0)), (1, .int x1), (2, .int x2), (3, .int (σ 1 9)), (4, .int (σ 1 10)), (5, .int (σ 1 12)), (6, .int r7)]) dX7_ifBound_57 (by decide) rfl [1, 2, 3, 4, 5, 6, 0] rfl rfl ?_
      refine lm_aload_n C dX7_ifBound_59 rfl 0 rfl rfl ?_
      refine lm_iload C dX7_ifBound_60 6 rfl rfl ?_
      refine lm_if_ge C (tgt := 70) dX7_ifBound_62 (by decide) rfl (fun c8 => ?_) (fun c8 => ?_)
      · have hF := lm_brt hF c8
        refine lm_bipush C (v := (20 : Int32)) dX7_ifBound_70 (by decide) rfl ?_
        obtain ⟨r10, σ9, qσ9, hF⟩ := lm_b2e hF
        refine lm_callV C (n := 1) (ci := 7) (w' := (mdW z a σ9)) hA (m_X7_steps D z zo l a σ6 (20 : Int32) r10 σ9 qσ9) gX7_ifBound_X7_steps rfl (by decide +kernel) ⟨Nat.le_of_ble_eq_true rfl, Nat.le_of_ble_eq_true rfl⟩ ⟨Nat.le_of_ble_eq_true rfl, Nat.le_of_ble_eq_true rfl⟩ 0 rfl rfl lm_pr lm_pr' rfl rfl (Nat.le_of_ble_eq_true rfl) dX7_ifBound_72 (st' := [.int r10]) rfl rfl ?_
        refine lm_istore C (lv' := [(0, .ref (a 0)), (1, .int x1), (2, .int x2), (3, .int (σ 1 9)), (4, .int (σ 1 10)), (5, .int (σ 1 12)), (6, .int r7), (7, .int r10)]) dX7_ifBound_75 (by decide) rfl [1, 2, 3, 4, 5, 6, 7, 0] rfl rfl ?_
        refine lm_iload_n C dX7_ifBound_77 rfl 2 rfl rfl ?_
        refine lm_if_ne C (tgt := 86) dX7_ifBound_78 (by decide) rfl (fun c11 => ?_) (fun c11 => ?_)
        · have hF := lm_brt hF c11
          refine lm_iload_n C dX7_ifBound_86 rfl 2 rfl rfl ?_
          refine lm_iconst C (v := (1 : Int32)) dX7_ifBound_87 (by decide) rfl ?_
          refine lm_icmp_ne C (tgt := 103) dX7_ifBound_88 (by decide) rfl (fun c12 => ?_) (fun c12 => ?_)
          · have hF := lm_brt hF c12
            refine lm_iload_n C dX7_ifBound_103 rfl 2 rfl rfl ?_
            refine lm_iconst C (v := (2 : Int32)) dX7_ifBound_104 (by decide) rfl ?_
            refine lm_icmp_ne C (tgt := 121) dX7_ifBound_105 (by decide) rfl (fun c13 => ?_) (fun c13 => ?_)
            · have hF := lm_brt hF c13
              refine lm_aload_n C dX7_ifBound_121 rfl 0 rfl rfl ?_
              refine lm_getf C (T := TX7) (N := 14) (v := .ref (a 1)) in7_X7_ifBound 0 rfl rfl 0 (by decide) fl7_X7_ifBound rfl rfl dX7_ifBound_122 rfl ?_
              refine lm_bipush C (v := (12 : Int32)) dX7_ifBound_125 (by decide) rfl ?_
              refine lm_iald C (v := (σ9 1 12)) 1 rfl (by unfold vp_in; decide) rfl dX7_ifBound_127 rfl ?_
              refine lm_iload C dX7_ifBound_128 5 rfl rfl ?_
              refine lm_isub C dX7_ifBound_130 rfl rfl ?_
              refine lm_istore C (lv' := [(0, .ref (a 0)), (1, .int x1), (2, .int x2), (3, .int (σ 1 9)), (4, .int (σ 1 10)), (5, .int (σ 1 12)), (6, .int r7), (7, .int r10), (8, .int ((σ9 1 12) - (σ 1 12)))]) dX7_ifBound_131 (by decide) rfl [1, 2, 3, 4, 5, 6, 7, 8, 0] rfl rfl ?_
              refine lm_aload_n C dX7_ifBound_133 rfl 0 rfl rfl ?_
              obtain ⟨σ14, qσ14, hF⟩ := lm_bde hF
              refine lm_callV C (n := 0) (ci := 7) (w' := (mdW z a σ14)) hA (m_X7_putsBack D z zo l a σ9  σ14 qσ14) gX7_ifBound_X7_putsBack rfl (by decide +kernel) ⟨Nat.le_of_ble_eq_true rfl, Nat.le_of_ble_eq_true rfl⟩ ⟨Nat.le_of_ble_eq_true rfl, Nat.le_of_ble_eq_true rfl⟩ 0 rfl rfl lm_pr lm_pr' rfl rfl (Nat.le_of_ble_eq_true rfl) dX7_ifBound_134 (st' := []) rfl rfl ?_
              refine lm_iload C dX7_ifBound_137 8 rfl rfl ?_
              cases hF
              exact lm_iret C hr hk rfl rfl dX7_ifBound_139
            · have hF := lm_brf hF c13
              refine lm_aload_n C dX7_ifBound_108 rfl 0 rfl rfl ?_
              refine lm_getf C (T := TX7) (N := 14) (v := .ref (a 1)) in7_X7_ifBound 0 rfl rfl 0 (by decide) fl7_X7_ifBound rfl rfl dX7_ifBound_109 rfl ?_
              refine lm_bipush C (v := (10 : Int32)) dX7_ifBound_112 (by decide) rfl ?_
              refine lm_iald C (v := (σ9 1 10)) 1 rfl (by unfold vp_in; decide) rfl dX7_ifBound_114 rfl ?_
              refine lm_iload C dX7_ifBound_115 4 rfl rfl ?_
              refine lm_isub C dX7_ifBound_117 rfl rfl ?_
              refine lm_goto C (tgt := 131) dX7_ifBound_118 (by decide) ?_
              refine lm_istore C (lv' := [(0, .ref (a 0)), (1, .int x1), (2, .int x2), (3, .int (σ 1 9)), (4, .int (σ 1 10)), (5, .int (σ 1 12)), (6, .int r7), (7, .int r10), (8, .int ((σ9 1 10) - (σ 1 10)))]) dX7_ifBound_131 (by decide) rfl [1, 2, 3, 4, 5, 6, 7, 8, 0] rfl rfl ?_
              refine lm_aload_n C dX7_ifBound_133 rfl 0 rfl rfl ?_
              obtain ⟨σ15, qσ15, hF⟩ := lm_bde hF
              refine lm_callV C (n := 0) (ci := 7) (w' := (mdW z a σ15)) hA (m_X7_putsBack D z zo l a σ9  σ15 qσ15) gX7_ifBound_X7_putsBack rfl (by decide +kernel) ⟨Nat.le_of_ble_eq_true rfl, Nat.le_of_ble_eq_true rfl⟩ ⟨Nat.le_of_ble_eq_true rfl, Nat.le_of_ble_eq_true rfl⟩ 0 rfl rfl lm_pr lm_pr' rfl rfl (Nat.le_of_ble_eq_true rfl) dX7_ifBound_134 (st' := []) rfl rfl ?_
              refine lm_iload C dX7_ifBound_137 8 rfl rfl ?_
              cases hF
              exact lm_iret C hr hk rfl rfl dX7_ifBound_139
          · have hF := lm_brf hF c12
            refine lm_aload_n C dX7_ifBound_91 rfl 0 rfl rfl ?_
            refine lm_getf C (T := TX7) (N := 14) (v := .ref (a 1)) in7_X7_ifBound 0 rfl rfl 0 (by decide) fl7_X7_ifBound rfl rfl dX7_ifBound_92 rfl ?_
            refine lm_bipush C (v := (9 : Int32)) dX7_ifBound_95 (by decide) rfl ?_
            refine lm_iald C (v := (σ9 1 9)) 1 rfl (by unfold vp_in; decide) rfl dX7_ifBound_97 rfl ?_
            refine lm_iload_n C dX7_ifBound_98 rfl 3 rfl rfl ?_
            refine lm_isub C dX7_ifBound_99 rfl rfl ?_
            refine lm_goto C (tgt := 131) dX7_ifBound_100 (by decide) ?_
            refine lm_istore C (lv' := [(0, .ref (a 0)), (1, .int x1), (2, .int x2), (3, .int (σ 1 9)), (4, .int (σ 1 10)), (5, .int (σ 1 12)), (6, .int r7), (7, .int r10), (8, .int ((σ9 1 9) - (σ 1 9)))]) dX7_ifBound_131 (by decide) rfl [1, 2, 3, 4, 5, 6, 7, 8, 0] rfl rfl ?_
            refine lm_aload_n C dX7_ifBound_133 rfl 0 rfl rfl ?_
            obtain ⟨σ16, qσ16, hF⟩ := lm_bde hF
            refine lm_callV C (n := 0) (ci := 7) (w' := (mdW z a σ16)) hA (m_X7_putsBack D z zo l a σ9  σ16 qσ16) gX7_ifBound_X7_putsBack rfl (by decide +kernel) ⟨Nat.le_of_ble_eq_true rfl, Nat.le_of_ble_eq_true rfl⟩ ⟨Nat.le_of_ble_eq_true rfl, Nat.le_of_ble_eq_true rfl⟩ 0 rfl rfl lm_pr lm_pr' rfl rfl (Nat.le_of_ble_eq_true rfl) dX7_ifBound_134 (st' := []) rfl rfl ?_
            refine lm_iload C dX7_ifBound_137 8 rfl rfl ?_
            cases hF
            exact lm_iret C hr hk rfl rfl dX7_ifBound_139
        · have hF := lm_brf hF c11
          refine lm_iload C dX7_ifBound_81 7 rfl rfl ?_
          refine lm_goto C (tgt := 131) dX7_ifBound_83 (by decide) ?_
          refine lm_istore C (lv' := [(0, .ref (a 0)), (1, .int x1), (2, .int x2), (3, .int (σ 1 9)), (4, .int (σ 1 10)), (5, .int (σ 1 12)), (6, .int r7), (7, .int r10), (8, .int r10)]) dX7_ifBound_131 (by decide) rfl [1, 2, 3, 4, 5, 6, 7, 8, 0] rfl rfl ?_
          refine lm_aload_n C dX7_ifBound_133 rfl 0 rfl rfl ?_
          obtain ⟨σ17, qσ17, hF⟩ := lm_bde hF
          refine lm_callV C (n := 0) (ci := 7) (w' := (mdW z a σ17)) hA (m_X7_putsBack D z zo l a σ9  σ17 qσ17) gX7_ifBound_X7_putsBack rfl (by decide +kernel) ⟨Nat.le_of_ble_eq_true rfl, Nat.le_of_ble_eq_true rfl⟩ ⟨Nat.le_of_ble_eq_true rfl, Nat.le_of_ble_eq_true rfl⟩ 0 rfl rfl lm_pr lm_pr' rfl rfl (Nat.le_of_ble_eq_true rfl) dX7_ifBound_134 (st' := []) rfl rfl ?_
          refine lm_iload C dX7_ifBound_137 8 rfl rfl ?_
          cases hF
          exact lm_iret C hr hk rfl rfl dX7_ifBound_139
      · have hF := lm_brf hF c8
        refine lm_iload C dX7_ifBound_65 6 rfl rfl ?_
        refine lm_goto C (tgt := 72) dX7_ifBound_67 (by decide) ?_
        obtain ⟨r19, σ18, qσ18, hF⟩ := lm_b2e hF
        refine lm_callV C (n := 1) (ci := 7) (w' := (mdW z a σ18)) hA (m_X7_steps D z zo l a σ6 r7 r19 σ18 qσ18) gX7_ifBound_X7_steps rfl (by decide +kernel) ⟨Nat.le_of_ble_eq_true rfl, Nat.le_of_ble_eq_true rfl⟩ ⟨Nat.le_of_ble_eq_true rfl, Nat.le_of_ble_eq_true rfl⟩ 0 rfl rfl lm_pr lm_pr' rfl rfl (Nat.le_of_ble_eq_true rfl) dX7_ifBound_72 (st' := [.int r19]) rfl rfl ?_
        refine lm_istore C (lv' := [(0, .ref (a 0)), (1, .int x1), (2, .int x2), (3, .int (σ 1 9)), (4, .int (σ 1 10)), (5, .int (σ 1 12)), (6, .int r7), (7, .int r19)]) dX7_ifBound_75 (by decide) rfl [1, 2, 3, 4, 5, 6, 7, 0] rfl rfl ?_
        refine lm_iload_n C dX7_ifBound_77 rfl 2 rfl rfl ?_
        refine lm_if_ne C (tgt := 86) dX7_ifBound_78 (by decide) rfl (fun c20 => ?_) (fun c20 => ?_)
        · have hF := lm_brt hF c20
          refine lm_iload_n C dX7_ifBound_86 rfl 2 rfl rfl ?_
          refine lm_iconst C (v := (1 : Int32)) dX7_ifBound_87 (by decide) rfl ?_
          refine lm_icmp_ne C (tgt := 103) dX7_ifBound_88 (by decide) rfl (fun c21 => ?_) (fun c21 => ?_)
          · have hF := lm_brt hF c21
            refine lm_iload_n C dX7_ifBound_103 rfl 2 rfl rfl ?_
            refine lm_iconst C (v := (2 : Int32)) dX7_ifBound_104 (by decide) rfl ?_
            refine lm_icmp_ne C (tgt := 121) dX7_ifBound_105 (by decide) rfl (fun c22 => ?_) (fun c22 => ?_)
            · have hF := lm_brt hF c22
              refine lm_aload_n C dX7_ifBound_121 rfl 0 rfl rfl ?_
              refine lm_getf C (T := TX7) (N := 14) (v := .ref (a 1)) in7_X7_ifBound 0 rfl rfl 0 (by decide) fl7_X7_ifBound rfl rfl dX7_ifBound_122 rfl ?_
              refine lm_bipush C (v := (12 : Int32)) dX7_ifBound_125 (by decide) rfl ?_
              refine lm_iald C (v := (σ18 1 12)) 1 rfl (by unfold vp_in; decide) rfl dX7_ifBound_127 rfl ?_
              refine lm_iload C dX7_ifBound_128 5 rfl rfl ?_
              refine lm_isub C dX7_ifBound_130 rfl rfl ?_
              refine lm_istore C (lv' := [(0, .ref (a 0)), (1, .int x1), (2, .int x2), (3, .int (σ 1 9)), (4, .int (σ 1 10)), (5, .int (σ 1 12)), (6, .int r7), (7, .int r19), (8, .int ((σ18 1 12) - (σ 1 12)))]) dX7_ifBound_131 (by decide) rfl [1, 2, 3, 4, 5, 6, 7, 8, 0] rfl rfl ?_
              refine lm_aload_n C dX7_ifBound_133 rfl 0 rfl rfl ?_
              obtain ⟨σ23, qσ23, hF⟩ := lm_bde hF
              refine lm_callV C (n := 0) (ci := 7) (w' := (mdW z a σ23)) hA (m_X7_putsBack D z zo l a σ18  σ23 qσ23) gX7_ifBound_X7_putsBack rfl (by decide +kernel) ⟨Nat.le_of_ble_eq_true rfl, Nat.le_of_ble_eq_true rfl⟩ ⟨Nat.le_of_ble_eq_true rfl, Nat.le_of_ble_eq_true rfl⟩ 0 rfl rfl lm_pr lm_pr' rfl rfl (Nat.le_of_ble_eq_true rfl) dX7_ifBound_134 (st' := []) rfl rfl ?_
              refine lm_iload C dX7_ifBound_137 8 rfl rfl ?_
              cases hF
              exact lm_iret C hr hk rfl rfl dX7_ifBound_139
            · have hF := lm_brf hF c22
              refine lm_aload_n C dX7_ifBound_108 rfl 0 rfl rfl ?_
              refine lm_getf C (T := TX7) (N := 14) (v := .ref (a 1)) in7_X7_ifBound 0 rfl rfl 0 (by decide) fl7_X7_ifBound rfl rfl dX7_ifBound_109 rfl ?_
              refine lm_bipush C (v := (10 : Int32)) dX7_ifBound_112 (by decide) rfl ?_
              refine lm_iald C (v := (σ18 1 10)) 1 rfl (by unfold vp_in; decide) rfl dX7_ifBound_114 rfl ?_
              refine lm_iload C dX7_ifBound_115 4 rfl rfl ?_
              refine lm_isub C dX7_ifBound_117 rfl rfl ?_
              refine lm_goto C (tgt := 131) dX7_ifBound_118 (by decide) ?_
              refine lm_istore C (lv' := [(0, .ref (a 0)), (1, .int x1), (2, .int x2), (3, .int (σ 1 9)), (4, .int (σ 1 10)), (5, .int (σ 1 12)), (6, .int r7), (7, .int r19), (8, .int ((σ18 1 10) - (σ 1 10)))]) dX7_ifBound_131 (by decide) rfl [1, 2, 3, 4, 5, 6, 7, 8, 0] rfl rfl ?_
              refine lm_aload_n C dX7_ifBound_133 rfl 0 rfl rfl ?_
              obtain ⟨σ24, qσ24, hF⟩ := lm_bde hF
              refine lm_callV C (n := 0) (ci := 7) (w' := (mdW z a σ24)) hA (m_X7_putsBack D z zo l a σ18  σ24 qσ24) gX7_ifBound_X7_putsBack rfl (by decide +kernel) ⟨Nat.le_of_ble_eq_true rfl, Nat.le_of_ble_eq_true rfl⟩ ⟨Nat.le_of_ble_eq_true rfl, Nat.le_of_ble_eq_true rfl⟩ 0 rfl rfl lm_pr lm_pr' rfl rfl (Nat.le_of_ble_eq_true rfl) dX7_ifBound_134 (st' := []) rfl rfl ?_
              refine lm_iload C dX7_ifBound_137 8 rfl rfl ?_
              cases hF
              exact lm_iret C hr hk rfl rfl dX7_ifBound_139
          · have hF := lm_brf hF c21
            refine lm_aload_n C dX7_ifBound_91 rfl 0 rfl rfl ?_
            refine lm_getf C (T := TX7) (N := 14) (v := .ref (a 1)) in7_X7_ifBound 0 rfl rfl 0 (by decide) fl7_X7_ifBound rfl rfl dX7_ifBound_92 rfl ?_
            refine lm_bipush C (v := (9 : Int32)) dX7_ifBound_95 (by decide) rfl ?_
            refine lm_iald C (v := (σ18 1 9)) 1 rfl (by unfold vp_in; decide) rfl dX7_ifBound_97 rfl ?_
            refine lm_iload_n C dX7_ifBound_98 rfl 3 rfl rfl ?_
            refine lm_isub C dX7_ifBound_99 rfl rfl ?_
            refine lm_goto C (tgt := 131) dX7_ifBound_100 (by decide) ?_
            refine lm_istore C (lv' := [(0, .ref (a 0)), (1, .int x1), (2, .int x2), (3, .int (σ 1 9)), (4, .int (σ 1 10)), (5, .int (σ 1 12)), (6, .int r7), (7, .int r19), (8, .int ((σ18 1 9) - (σ 1 9)))]) dX7_ifBound_131 (by decide) rfl [1, 2, 3, 4, 5, 6, 7, 8, 0] rfl rfl ?_
            refine lm_aload_n C dX7_ifBound_133 rfl 0 rfl rfl ?_
            obtain ⟨σ25, qσ25, hF⟩ := lm_bde hF
            refine lm_callV C (n := 0) (ci := 7) (w' := (mdW z a σ25)) hA (m_X7_putsBack D z zo l a σ18  σ25 qσ25) gX7_ifBound_X7_putsBack rfl (by decide +kernel) ⟨Nat.le_of_ble_eq_true rfl, Nat.le_of_ble_eq_true rfl⟩ ⟨Nat.le_of_ble_eq_true rfl, Nat.le_of_ble_eq_true rfl⟩ 0 rfl rfl lm_pr lm_pr' rfl rfl (Nat.le_of_ble_eq_true rfl) dX7_ifBound_134 (st' := []) rfl rfl ?_
            refine lm_iload C dX7_ifBound_137 8 rfl rfl ?_
            cases hF
            exact lm_iret C hr hk rfl rfl dX7_ifBound_139
        · have hF := lm_brf hF c20
          refine lm_iload C dX7_ifBound_81 7 rfl rfl ?_
          refine lm_goto C (tgt := 131) dX7_ifBound_83 (by decide) ?_
          refine lm_istore C (lv' := [(0, .ref (a 0)), (1, .int x1), (2, .int x2), (3, .int (σ 1 9)), (4, .int (σ 1 10)), (5, .int (σ 1 12)), (6, .int r7), (7, .int r19), (8, .int r19)]) dX7_ifBound_131 (by decide) rfl [1, 2, 3, 4, 5, 6, 7, 8, 0] rfl rfl ?_
          refine lm_aload_n C dX7_ifBound_133 rfl 0 rfl rfl ?_
          obtain ⟨σ26, qσ26, hF⟩ := lm_bde hF
          refine lm_callV C (n := 0) (ci := 7) (w' := (mdW z a σ26)) hA (m_X7_putsBack D z zo l a σ18  σ26 qσ26) gX7_ifBound_X7_putsBack rfl (by decide +kernel) ⟨Nat.le_of_ble_eq_true rfl, Nat.le_of_ble_eq_true rfl⟩ ⟨Nat.le_of_ble_eq_true rfl, Nat.le_of_ble_eq_true rfl⟩ 0 rfl rfl lm_pr lm_pr' rfl rfl (Nat.le_of_ble_eq_true rfl) dX7_ifBound_134 (st' := []) rfl rfl ?_
          refine lm_iload C dX7_ifBound_137 8 rfl rfl ?_
          cases hF
          exact lm_iret C hr hk rfl rfl dX7_ifBound_139
    · have hF := lm_brf hF c4
      refine lm_iconst C (v := (-1 : Int32)) dX7_ifBound_19 (by decide) rfl ?_
      cases hF
      exact lm_iret C hr hk rfl rfl dX7_ifBound_20
def F_X7_swaps_L2 : Nat → Hp → Int32 → Int32 → Int32 → Option (Hp)
  | 0, _, _, _, _ => none
  | n + 1, σx, x1, x2, x3 =>
    lm_br ((2 : Int32) ≤ x3)
     (some σx)
     (lm_gi (((57 : Int32) + ((2 : Int32) * x1)) + x3) 127
     (lm_lt (σx 1 ((((57 : Int32) + ((2 : Int32) * x1)) + x3)).toNatClampNeg) fun t3 =>
     lm_gi (((57 : Int32) + ((2 : Int32) * x2)) + x3) 127
     (lm_gi (((57 : Int32) + ((2 : Int32) * x1)) + x3) 127
     (lm_lt (lm_u σx 1 (((((57 : Int32) + ((2 : Int32) * x1)) + x3)).toNatClampNeg) (σx 1 ((((57 : Int32) + ((2 : Int32) * x2)) + x3)).toNatClampNeg)) fun σ5 =>
     lm_gi (((57 : Int32) + ((2 : Int32) * x2)) + x3) 127
     (lm_lt (lm_u σ5 1 (((((57 : Int32) + ((2 : Int32) * x2)) + x3)).toNatClampNeg) t3) fun σ6 =>
     F_X7_swaps_L2 n σ6 x1 x2 (x3 + (1 : Int32)))))))
def F_X7_swaps (σ : Hp) (x1 x2 : Int32) : Option (Hp) :=
  F_X7_swaps_L2 1000 σ x1 x2 (0 : Int32)
theorem in7_X7_swaps : ∀ w ∈ u_ws RX7 TX7 14, w ∈ wsX7_swaps := by decide +kernel
theorem fl7_X7_swaps : Cond.fieldLink RX7 7 "LoopMemoModel" "s" "[I" ∈ wsX7_swaps := by decide +kernel
set_option maxRecDepth 100000 in
set_option maxHeartbeats 4000000 in
theorem m_X7_swaps (D : va_G) (z zo : ClassId) (l : Launch) (a : Nat → Nat) (σ : Hp) (x1 x2 : Int32)  (σ' : Hp) (hF : F_X7_swaps σ x1 x2 = some σ') : lm_C D z zo l yX7_swaps wsX7_swaps 0 0 [.ref (a 0), .int x1, .int x2] (mdW z a σ) none (mdW z a σ') := by
  refine lm_C.of (by decide) rfl (Nat.le_of_ble_eq_true rfl) (own := RX7) rfl ?_
  intro p e s m_ args below meth c C hr hk hA
  have loop_2 : ∀ (n : Nat) (σx : Hp) (x1 : Int32) (x2 : Int32) (x3 : Int32), F_X7_swaps_L2 n σx x1 x2 x3 = some σ' → lm_St p l e ({ frames := 0, cells := 0, slots := 0, locals := 0 }) s m_ args below meth c D (va_A (mdW z a σ) s.heap.size) 5 0 0 (lm_End below D none (mdW z a σ) (mdW z a σ') args s) false (mdW z a σx) 2 [(0, .ref (a 0)), (1, .int x1), (2, .int x2), (3, .int x3)] [] := by
    intro n
    induction n with
    | zero => intro σx x1 x2 x3 hF; cases (show (none : Option _) = some _ from hF)
    | succ n ih =>
      intro σx x1 x2 x3 hF
      rw [F_X7_swaps_L2] at hF
      refine lm_iload_n C dX7_swaps_2 rfl 3 rfl rfl ?_
      refine lm_iconst C (v := (2 : Int32)) dX7_swaps_3 (by decide) rfl ?_
      refine lm_icmp_ge C (tgt := 69) dX7_swaps_4 (by decide) rfl (fun c1 => ?_) (fun c1 => ?_)
      · have hF := lm_brt hF c1
        cases hF
        exact lm_vret C hr hk rfl rfl dX7_swaps_69
      · have hF := lm_brf hF c1
        refine lm_aload_n C dX7_swaps_7 rfl 0 rfl rfl ?_
        refine lm_getf C (T := TX7) (N := 14) (v := .ref (a 1)) in7_X7_swaps 0 rfl rfl 0 (by decide) fl7_X7_swaps rfl rfl dX7_swaps_8 rfl ?_
        refine lm_bipush C (v := (57 : Int32)) dX7_swaps_11 (by decide) rfl ?_
        refine lm_iconst C (v := (2 : Int32)) dX7_swaps_13 (by decide) rfl ?_
        refine lm_iload_n C dX7_swaps_14 rfl 1 rfl rfl ?_
        refine lm_imul C dX7_swaps_15 rfl rfl ?_
        refine lm_iadd C dX7_swaps_16 rfl rfl ?_
        refine lm_iload_n C dX7_swaps_17 rfl 3 rfl rfl ?_
        refine lm_iadd C dX7_swaps_18 rfl rfl ?_
        obtain ⟨b2, hF⟩ := lm_gie hF
        refine lm_iald C (v := (σx 1 ((((57 : Int32) + ((2 : Int32) * x1)) + x3)).toNatClampNeg)) 1 rfl b2 rfl dX7_swaps_19 rfl ?_
        obtain ⟨t3, et3, hF⟩ := lm_lte hF
        rw [et3]
        refine lm_istore C (lv' := [(0, .ref (a 0)), (1, .int x1), (2, .int x2), (3, .int x3), (4, .int t3)]) dX7_swaps_20 (by decide) rfl [1, 2, 3, 4, 0] rfl rfl ?_
        refine lm_aload_n C dX7_swaps_22 rfl 0 rfl rfl ?_
        refine lm_getf C (T := TX7) (N := 14) (v := .ref (a 1)) in7_X7_swaps 0 rfl rfl 0 (by decide) fl7_X7_swaps rfl rfl dX7_swaps_23 rfl ?_
        refine lm_bipush C (v := (57 : Int32)) dX7_swaps_26 (by decide) rfl ?_
        refine lm_iconst C (v := (2 : Int32)) dX7_swaps_28 (by decide) rfl ?_
        refine lm_iload_n C dX7_swaps_29 rfl 1 rfl rfl ?_
        refine lm_imul C dX7_swaps_30 rfl rfl ?_
        refine lm_iadd C dX7_swaps_31 rfl rfl ?_
        refine lm_iload_n C dX7_swaps_32 rfl 3 rfl rfl ?_
        refine lm_iadd C dX7_swaps_33 rfl rfl ?_
        refine lm_aload_n C dX7_swaps_34 rfl 0 rfl rfl ?_
        refine lm_getf C (T := TX7) (N := 14) (v := .ref (a 1)) in7_X7_swaps 0 rfl rfl 0 (by decide) fl7_X7_swaps rfl rfl dX7_swaps_35 rfl ?_
        refine lm_bipush C (v := (57 : Int32)) dX7_swaps_38 (by decide) rfl ?_
        refine lm_iconst C (v := (2 : Int32)) dX7_swaps_40 (by decide) rfl ?_
        refine lm_iload_n C dX7_swaps_41 rfl 2 rfl rfl ?_
        refine lm_imul C dX7_swaps_42 rfl rfl ?_
        refine lm_iadd C dX7_swaps_43 rfl rfl ?_
        refine lm_iload_n C dX7_swaps_44 rfl 3 rfl rfl ?_
        refine lm_iadd C dX7_swaps_45 rfl rfl ?_
        obtain ⟨b4, hF⟩ := lm_gie hF
        refine lm_iald C (v := (σx 1 ((((57 : Int32) + ((2 : Int32) * x2)) + x3)).toNatClampNeg)) 1 rfl b4 rfl dX7_swaps_46 rfl ?_
        obtain ⟨b8, hF⟩ := lm_gie hF
        obtain ⟨σ5, eσ5, hF⟩ := lm_lte hF
        refine lm_iast C (w' := (mdW z a σ5)) 1 rfl b8 dX7_swaps_47 (by rw [← eσ5]; rfl) rfl ?_
        refine lm_aload_n C dX7_swaps_48 rfl 0 rfl rfl ?_
        refine lm_getf C (T := TX7) (N := 14) (v := .ref (a 1)) in7_X7_swaps 0 rfl rfl 0 (by decide) fl7_X7_swaps rfl rfl dX7_swaps_49 rfl ?_
        refine lm_bipush C (v := (57 : Int32)) dX7_swaps_52 (by decide) rfl ?_
        refine lm_iconst C (v := (2 : Int32)) dX7_swaps_54 (by decide) rfl ?_
        refine lm_iload_n C dX7_swaps_55 rfl 2 rfl rfl ?_
        refine lm_imul C dX7_swaps_56 rfl rfl ?_
        refine lm_iadd C dX7_swaps_57 rfl rfl ?_
        refine lm_iload_n C dX7_swaps_58 rfl 3 rfl rfl ?_
        refine lm_iadd C dX7_swaps_59 rfl rfl ?_
        refine lm_iload C dX7_swaps_60 4 rfl rfl ?_
        obtain ⟨b7, hF⟩ := lm_gie hF
        obtain ⟨σ6, eσ6, hF⟩ := lm_lte hF
        refine lm_iast C (w' := (mdW z a σ6)) 1 rfl b7 dX7_swaps_62 (by rw [← eσ6]; rfl) rfl ?_
        refine lm_iinc C (lv' := [(0, .ref (a 0)), (1, .int x1), (2, .int x2), (3, .int (x3 + (1 : Int32))), (4, .int t3)]) (x3 + (1 : Int32)) dX7_swaps_63 3 rfl rfl (by decide) rfl [1, 2, 3, 0, 4] rfl rfl ?_
        refine lm_goto C (tgt := 2) dX7_swaps_66 (by decide) ?_
        refine lm_lvsub (lv' := [(0, .ref (a 0)), (1, .int x1), (2, .int x2), (3, .int (x3 + (1 : Int32)))]) [0, 1, 2, 3] rfl ?_
        exact ih σ6 x1 x2 (x3 + (1 : Int32)) hF
  show lm_St p l e ({ frames := 0, cells := 0, slots := 0, locals := 0 }) s m_ args below meth c D (va_A (mdW z a σ) s.heap.size) 5 0 0 (lm_End below D none (mdW z a σ) (mdW z a σ') args s) false (mdW z a σ) 0 [(0, .ref (a 0)), (1, .int x1), (2, .int x2)] []
  rw [F_X7_swaps] at hF
  refine lm_iconst C (v := (0 : Int32)) dX7_swaps_0 (by decide) rfl ?_
  refine lm_istore_n C (lv' := [(0, .ref (a 0)), (1, .int x1), (2, .int x2), (3, .int (0 : Int32))]) dX7_swaps_1 rfl (by decide) rfl [1, 2, 3, 0] rfl rfl ?_
  exact loop_2 1000 σ x1 x2 (0 : Int32) hF
def F_X7_sorts_L23 : Nat → Hp → Int32 → Int32 → Option (Hp)
  | 0, _, _, _ => none
  | n + 1, σx, x1, x2 =>
    lm_br (x2 ≤ (σx 1 7))
     (some (σx))
     (lm_gi ((57 : Int32) + ((2 : Int32) * x2)) 127
     (lm_gi (((57 : Int32) + ((2 : Int32) * x2)) - (2 : Int32)) 127
     (lm_br ((σx 1 ((((57 : Int32) + ((2 : Int32) * x2)) - (2 : Int32))).toNatClampNeg) ≤ (σx 1 (((57 : Int32) + ((2 : Int32) * x2))).toNatClampNeg))
      (some (σx))
      (lm_bd (F_X7_swaps σx x2 (x2 - (1 : Int32))) fun σ6 =>
      F_X7_sorts_L23 n σ6 x1 (x2 + (-1 : Int32))))))
def F_X7_sorts_L10 : Nat → Hp → Int32 → Option (Hp)
  | 0, _, _ => none
  | n + 1, σx, x1 =>
    lm_br ((σx 1 6) ≤ x1)
     (some σx)
     (lm_bd (F_X7_sorts_L23 1000 σx x1 x1) fun σ7 =>
     F_X7_sorts_L10 n σ7 (x1 + (1 : Int32)))
def F_X7_sorts (σ : Hp)  : Option (Hp) :=
  F_X7_sorts_L10 1000 σ ((σ 1 7) + (1 : Int32))
theorem in7_X7_sorts : ∀ w ∈ u_ws RX7 TX7 14, w ∈ wsX7_sorts := by decide +kernel
theorem fl7_X7_sorts : Cond.fieldLink RX7 7 "LoopMemoModel" "s" "[I" ∈ wsX7_sorts := by decide +kernel
set_option maxRecDepth 100000 in
set_option maxHeartbeats 4000000 in
theorem m_X7_sorts (D : va_G) (z zo : ClassId) (l : Launch) (a : Nat → Nat) (σ : Hp)   (σ' : Hp) (hF : F_X7_sorts σ  = some σ') : lm_C D z zo l yX7_sorts wsX7_sorts 1 24 [.ref (a 0)] (mdW z a σ) none (mdW z a σ') := by
  refine lm_C.of (by decide) rfl (Nat.le_of_ble_eq_true rfl) (own := RX7) rfl ?_
  intro p e s m_ args below meth c C hr hk hA
  have loop_23 : ∀ (n : Nat) (σx : Hp) (x1 : Int32) (x2 : Int32) (o0 : Hp), F_X7_sorts_L23 n σx x1 x2 = some o0 → lm_St p l e ({ frames := 1, cells := 0, slots := 0, locals := 24 }) s m_ args below meth c D (va_A (mdW z a σ) s.heap.size) 3 0 0 (lm_End below D none (mdW z a σ) (mdW z a σ') args s) false (mdW z a o0) 75 [(0, .ref (a 0)), (1, .int x1)] [] → lm_St p l e ({ frames := 1, cells := 0, slots := 0, locals := 24 }) s m_ args below meth c D (va_A (mdW z a σ) s.heap.size) 3 0 0 (lm_End below D none (mdW z a σ) (mdW z a σ') args s) false (mdW z a σx) 23 [(0, .ref (a 0)), (1, .int x1), (2, .int x2)] [] := by
    intro n
    induction n with
    | zero => intro σx x1 x2 o0 hF hK; cases (show (none : Option _) = some _ from hF)
    | succ n ih =>
      intro σx x1 x2 o0 hF hK
      rw [F_X7_sorts_L23] at hF
      refine lm_iload_n C dX7_sorts_23 rfl 2 rfl rfl ?_
      refine lm_aload_n C dX7_sorts_24 rfl 0 rfl rfl ?_
      refine lm_getf C (T := TX7) (N := 14) (v := .ref (a 1)) in7_X7_sorts 0 rfl rfl 0 (by decide) fl7_X7_sorts rfl rfl dX7_sorts_25 rfl ?_
      refine lm_bipush C (v := (7 : Int32)) dX7_sorts_28 (by decide) rfl ?_
      refine lm_iald C (v := (σx 1 7)) 1 rfl (by unfold vp_in; decide) rfl dX7_sorts_30 rfl ?_
      refine lm_icmp_le C (tgt := 75) dX7_sorts_31 (by decide) rfl (fun c2 => ?_) (fun c2 => ?_)
      · have hF := lm_brt hF c2
        refine lm_lvsub (lv' := [(0, .ref (a 0)), (1, .int x1)]) [0, 1] rfl ?_
        cases hF
        exact hK
      · have hF := lm_brf hF c2
        refine lm_aload_n C dX7_sorts_34 rfl 0 rfl rfl ?_
        refine lm_getf C (T := TX7) (N := 14) (v := .ref (a 1)) in7_X7_sorts 0 rfl rfl 0 (by decide) fl7_X7_sorts rfl rfl dX7_sorts_35 rfl ?_
        refine lm_bipush C (v := (57 : Int32)) dX7_sorts_38 (by decide) rfl ?_
        refine lm_iconst C (v := (2 : Int32)) dX7_sorts_40 (by decide) rfl ?_
        refine lm_iload_n C dX7_sorts_41 rfl 2 rfl rfl ?_
        refine lm_imul C dX7_sorts_42 rfl rfl ?_
        refine lm_iadd C dX7_sorts_43 rfl rfl ?_
        obtain ⟨b3, hF⟩ := lm_gie hF
        refine lm_iald C (v := (σx 1 (((57 : Int32) + ((2 : Int32) * x2))).toNatClampNeg)) 1 rfl b3 rfl dX7_sorts_44 rfl ?_
        refine lm_aload_n C dX7_sorts_45 rfl 0 rfl rfl ?_
        refine lm_getf C (T := TX7) (N := 14) (v := .ref (a 1)) in7_X7_sorts 0 rfl rfl 0 (by decide) fl7_X7_sorts rfl rfl dX7_sorts_46 rfl ?_
        refine lm_bipush C (v := (57 : Int32)) dX7_sorts_49 (by decide) rfl ?_
        refine lm_iconst C (v := (2 : Int32)) dX7_sorts_51 (by decide) rfl ?_
        refine lm_iload_n C dX7_sorts_52 rfl 2 rfl rfl ?_
        refine lm_imul C dX7_sorts_53 rfl rfl ?_
        refine lm_iadd C dX7_sorts_54 rfl rfl ?_
        refine lm_iconst C (v := (2 : Int32)) dX7_sorts_55 (by decide) rfl ?_
        refine lm_isub C dX7_sorts_56 rfl rfl ?_
        obtain ⟨b4, hF⟩ := lm_gie hF
        refine lm_iald C (v := (σx 1 ((((57 : Int32) + ((2 : Int32) * x2)) - (2 : Int32))).toNatClampNeg)) 1 rfl b4 rfl dX7_sorts_57 rfl ?_
        refine lm_icmp_ge C (tgt := 75) dX7_sorts_58 (by decide) rfl (fun c5 => ?_) (fun c5 => ?_)
        · have hF := lm_brt hF c5
          refine lm_lvsub (lv' := [(0, .ref (a 0)), (1, .int x1)]) [0, 1] rfl ?_
          cases hF
          exact hK
        · have hF := lm_brf hF c5
          refine lm_aload_n C dX7_sorts_61 rfl 0 rfl rfl ?_
          refine lm_iload_n C dX7_sorts_62 rfl 2 rfl rfl ?_
          refine lm_iload_n C dX7_sorts_63 rfl 2 rfl rfl ?_
          refine lm_iconst C (v := (1 : Int32)) dX7_sorts_64 (by decide) rfl ?_
          refine lm_isub C dX7_sorts_65 rfl rfl ?_
          obtain ⟨σ6, qσ6, hF⟩ := lm_bde hF
          refine lm_callV C (n := 2) (ci := 7) (w' := (mdW z a σ6)) hA (m_X7_swaps D z zo l a σx x2 (x2 - (1 : Int32)) σ6 qσ6) gX7_sorts_X7_swaps rfl (by decide +kernel) ⟨Nat.le_of_ble_eq_true rfl, Nat.le_of_ble_eq_true rfl⟩ ⟨Nat.le_of_ble_eq_true rfl, Nat.le_of_ble_eq_true rfl⟩ 0 rfl rfl lm_pr lm_pr' rfl rfl (Nat.le_of_ble_eq_true rfl) dX7_sorts_66 (st' := []) rfl rfl ?_
          refine lm_iinc C (lv' := [(0, .ref (a 0)), (1, .int x1), (2, .int (x2 + (-1 : Int32)))]) (x2 + (-1 : Int32)) dX7_sorts_69 2 rfl rfl (by decide) rfl [1, 2, 0] rfl rfl ?_
          refine lm_goto C (tgt := 23) dX7_sorts_72 (by decide) ?_
          exact ih σ6 x1 (x2 + (-1 : Int32)) _ hF hK
  have loop_10 : ∀ (n : Nat) (σx : Hp) (x1 : Int32), F_X7_sorts_L10 n σx x1 = some σ' → lm_St p l e ({ frames := 1, cells := 0, slots := 0, locals := 24 }) s m_ args below meth c D (va_A (mdW z a σ) s.heap.size) 3 0 0 (lm_End below D none (mdW z a σ) (mdW z a σ') args s) false (mdW z a σx) 10 [(0, .ref (a 0)), (1, .int x1)] [] := by
    intro n
    induction n with
    | zero => intro σx x1 hF; cases (show (none : Option _) = some _ from hF)
    | succ n ih =>
      intro σx x1 hF
      rw [F_X7_sorts_L10] at hF
      refine lm_iload_n C dX7_sorts_10 rfl 1 rfl rfl ?_
      refine lm_aload_n C dX7_sorts_11 rfl 0 rfl rfl ?_
      refine lm_getf C (T := TX7) (N := 14) (v := .ref (a 1)) in7_X7_sorts 0 rfl rfl 0 (by decide) fl7_X7_sorts rfl rfl dX7_sorts_12 rfl ?_
      refine lm_bipush C (v := (6 : Int32)) dX7_sorts_15 (by decide) rfl ?_
      refine lm_iald C (v := (σx 1 6)) 1 rfl (by unfold vp_in; decide) rfl dX7_sorts_17 rfl ?_
      refine lm_icmp_ge C (tgt := 81) dX7_sorts_18 (by decide) rfl (fun c1 => ?_) (fun c1 => ?_)
      · have hF := lm_brt hF c1
        cases hF
        exact lm_vret C hr hk rfl rfl dX7_sorts_81
      · have hF := lm_brf hF c1
        refine lm_iload_n C dX7_sorts_21 rfl 1 rfl rfl ?_
        refine lm_istore_n C (lv' := [(0, .ref (a 0)), (1, .int x1), (2, .int x1)]) dX7_sorts_22 rfl (by decide) rfl [1, 2, 0] rfl rfl ?_
        obtain ⟨σ7, hqσ7, hF⟩ := lm_bde hF
        refine loop_23 1000 σx x1 x1 σ7 hqσ7 ?_
        refine lm_iinc C (lv' := [(0, .ref (a 0)), (1, .int (x1 + (1 : Int32)))]) (x1 + (1 : Int32)) dX7_sorts_75 1 rfl rfl (by decide) rfl [1, 0] rfl rfl ?_
        refine lm_goto C (tgt := 10) dX7_sorts_78 (by decide) ?_
        exact ih σ7 (x1 + (1 : Int32)) hF
  show lm_St p l e ({ frames := 1, cells := 0, slots := 0, locals := 24 }) s m_ args below meth c D (va_A (mdW z a σ) s.heap.size) 3 0 0 (lm_End below D none (mdW z a σ) (mdW z a σ') args s) false (mdW z a σ) 0 [(0, .ref (a 0))] []
  rw [F_X7_sorts] at hF
  refine lm_aload_n C dX7_sorts_0 rfl 0 rfl rfl ?_
  refine lm_getf C (T := TX7) (N := 14) (v := .ref (a 1)) in7_X7_sorts 0 rfl rfl 0 (by decide) fl7_X7_sorts rfl rfl dX7_sorts_1 rfl ?_
  refine lm_bipush C (v := (7 : Int32)) dX7_sorts_4 (by decide) rfl ?_
  refine lm_iald C (v := (σ 1 7)) 1 rfl (by unfold vp_in; decide) rfl dX7_sorts_6 rfl ?_
  refine lm_iconst C (v := (1 : Int32)) dX7_sorts_7 (by decide) rfl ?_
  refine lm_iadd C dX7_sorts_8 rfl rfl ?_
  refine lm_istore_n C (lv' := [(0, .ref (a 0)), (1, .int ((σ 1 7) + (1 : Int32)))]) dX7_sorts_9 rfl (by decide) rfl [1, 0] rfl rfl ?_
  exact loop_10 1000 σ ((σ 1 7) + (1 : Int32)) hF
def F_X7_turns_L18 : Nat → Hp → Int32 → Int32 → Option (Hp)
  | 0, _, _, _ => none
  | n + 1, σx, x1, x2 =>
    lm_br (x2 ≤ x1)
     (some σx)
     (lm_bd (F_X7_swaps σx x1 x2) fun σ2 =>
     F_X7_turns_L18 n σ2 (x1 + (1 : Int32)) (x2 + (-1 : Int32)))
def F_X7_turns (σ : Hp)  : Option (Hp) :=
  F_X7_turns_L18 1000 σ (σ 1 7) ((σ 1 6) - (1 : Int32))
theorem in7_X7_turns : ∀ w ∈ u_ws RX7 TX7 14, w ∈ wsX7_turns := by decide +kernel
theorem fl7_X7_turns : Cond.fieldLink RX7 7 "LoopMemoModel" "s" "[I" ∈ wsX7_turns := by decide +kernel
set_option maxRecDepth 100000 in
set_option maxHeartbeats 4000000 in
theorem m_X7_turns (D : va_G) (z zo : ClassId) (l : Launch) (a : Nat → Nat) (σ : Hp)   (σ' : Hp) (hF : F_X7_turns σ  = some σ') : lm_C D z zo l yX7_turns wsX7_turns 1 24 [.ref (a 0)] (mdW z a σ) none (mdW z a σ') := by
  refine lm_C.of (by decide) rfl (Nat.le_of_ble_eq_true rfl) (own := RX7) rfl ?_
  intro p e s m_ args below meth c C hr hk hA
  have loop_18 : ∀ (n : Nat) (σx : Hp) (x1 : Int32) (x2 : Int32), F_X7_turns_L18 n σx x1 x2 = some σ' → lm_St p l e ({ frames := 1, cells := 0, slots := 0, locals := 24 }) s m_ args below meth c D (va_A (mdW z a σ) s.heap.size) 3 0 0 (lm_End below D none (mdW z a σ) (mdW z a σ') args s) false (mdW z a σx) 18 [(0, .ref (a 0)), (1, .int x1), (2, .int x2)] [] := by
    intro n
    induction n with
    | zero => intro σx x1 x2 hF; cases (show (none : Option _) = some _ from hF)
    | succ n ih =>
      intro σx x1 x2 hF
      rw [F_X7_turns_L18] at hF
      refine lm_iload_n C dX7_turns_18 rfl 1 rfl rfl ?_
      refine lm_iload_n C dX7_turns_19 rfl 2 rfl rfl ?_
      refine lm_icmp_ge C (tgt := 38) dX7_turns_20 (by decide) rfl (fun c1 => ?_) (fun c1 => ?_)
      · have hF := lm_brt hF c1
        cases hF
        exact lm_vret C hr hk rfl rfl dX7_turns_38
      · have hF := lm_brf hF c1
        refine lm_aload_n C dX7_turns_23 rfl 0 rfl rfl ?_
        refine lm_iload_n C dX7_turns_24 rfl 1 rfl rfl ?_
        refine lm_iload_n C dX7_turns_25 rfl 2 rfl rfl ?_
        obtain ⟨σ2, qσ2, hF⟩ := lm_bde hF
        refine lm_callV C (n := 2) (ci := 7) (w' := (mdW z a σ2)) hA (m_X7_swaps D z zo l a σx x1 x2 σ2 qσ2) gX7_turns_X7_swaps rfl (by decide +kernel) ⟨Nat.le_of_ble_eq_true rfl, Nat.le_of_ble_eq_true rfl⟩ ⟨Nat.le_of_ble_eq_true rfl, Nat.le_of_ble_eq_true rfl⟩ 0 rfl rfl lm_pr lm_pr' rfl rfl (Nat.le_of_ble_eq_true rfl) dX7_turns_26 (st' := []) rfl rfl ?_
        refine lm_iinc C (lv' := [(0, .ref (a 0)), (1, .int (x1 + (1 : Int32))), (2, .int x2)]) (x1 + (1 : Int32)) dX7_turns_29 1 rfl rfl (by decide) rfl [1, 0, 2] rfl rfl ?_
        refine lm_iinc C (lv' := [(0, .ref (a 0)), (1, .int (x1 + (1 : Int32))), (2, .int (x2 + (-1 : Int32)))]) (x2 + (-1 : Int32)) dX7_turns_32 2 rfl rfl (by decide) rfl [1, 2, 0] rfl rfl ?_
        refine lm_goto C (tgt := 18) dX7_turns_35 (by decide) ?_
        exact ih σ2 (x1 + (1 : Int32)) (x2 + (-1 : Int32)) hF
  show lm_St p l e ({ frames := 1, cells := 0, slots := 0, locals := 24 }) s m_ args below meth c D (va_A (mdW z a σ) s.heap.size) 3 0 0 (lm_End below D none (mdW z a σ) (mdW z a σ') args s) false (mdW z a σ) 0 [(0, .ref (a 0))] []
  rw [F_X7_turns] at hF
  refine lm_aload_n C dX7_turns_0 rfl 0 rfl rfl ?_
  refine lm_getf C (T := TX7) (N := 14) (v := .ref (a 1)) in7_X7_turns 0 rfl rfl 0 (by decide) fl7_X7_turns rfl rfl dX7_turns_1 rfl ?_
  refine lm_bipush C (v := (7 : Int32)) dX7_turns_4 (by decide) rfl ?_
  refine lm_iald C (v := (σ 1 7)) 1 rfl (by unfold vp_in; decide) rfl dX7_turns_6 rfl ?_
  refine lm_istore_n C (lv' := [(0, .ref (a 0)), (1, .int (σ 1 7))]) dX7_turns_7 rfl (by decide) rfl [1, 0] rfl rfl ?_
  refine lm_aload_n C dX7_turns_8 rfl 0 rfl rfl ?_
  refine lm_getf C (T := TX7) (N := 14) (v := .ref (a 1)) in7_X7_turns 0 rfl rfl 0 (by decide) fl7_X7_turns rfl rfl dX7_turns_9 rfl ?_
  refine lm_bipush C (v := (6 : Int32)) dX7_turns_12 (by decide) rfl ?_
  refine lm_iald C (v := (σ 1 6)) 1 rfl (by unfold vp_in; decide) rfl dX7_turns_14 rfl ?_
  refine lm_iconst C (v := (1 : Int32)) dX7_turns_15 (by decide) rfl ?_
  refine lm_isub C dX7_turns_16 rfl rfl ?_
  refine lm_istore_n C (lv' := [(0, .ref (a 0)), (1, .int (σ 1 7)), (2, .int ((σ 1 6) - (1 : Int32)))]) dX7_turns_17 rfl (by decide) rfl [1, 2, 0] rfl rfl ?_
  exact loop_18 1000 σ (σ 1 7) ((σ 1 6) - (1 : Int32)) hF
def F_X7_ifOrdered (σ : Hp) (x1 : Int32) : Option (Int32 × (Hp)) :=
  lm_bd (F_X7_in x1 (0 : Int32) (2 : Int32)) fun r1 =>
  lm_br (¬ r1 = 0)
   (lm_bd (F_X7_putsAside σ) fun σ3 =>
   lm_br (¬ x1 = (1 : Int32))
    (lm_br (¬ x1 = (2 : Int32))
     (lm_b2 (F_X7_steps σ3 (20 : Int32)) fun r7 σ6 =>
     lm_bd (F_X7_putsBack σ6) fun σ8 =>
     some (r7, σ8))
     (lm_bd (F_X7_turns σ3) fun σ9 =>
     lm_b2 (F_X7_steps σ9 (20 : Int32)) fun r11 σ10 =>
     lm_bd (F_X7_putsBack σ10) fun σ12 =>
     some (r11, σ12)))
    (lm_bd (F_X7_sorts σ3) fun σ13 =>
    lm_br (¬ x1 = (2 : Int32))
     (lm_b2 (F_X7_steps σ13 (20 : Int32)) fun r16 σ15 =>
     lm_bd (F_X7_putsBack σ15) fun σ17 =>
     some (r16, σ17))
     (lm_bd (F_X7_turns σ13) fun σ18 =>
     lm_b2 (F_X7_steps σ18 (20 : Int32)) fun r20 σ19 =>
     lm_bd (F_X7_putsBack σ19) fun σ21 =>
     some (r20, σ21))))
   (some ((-1 : Int32), σ))
set_option maxRecDepth 100000 in
set_option maxHeartbeats 4000000 in
theorem m_X7_ifOrdered (D : va_G) (z zo : ClassId) (l : Launch) (a : Nat → Nat) (σ : Hp) (x1 : Int32) (r : Int32) (σ' : Hp) (hF : F_X7_ifOrdered σ x1 = some (r, σ')) : lm_C D z zo l yX7_ifOrdered wsX7_ifOrdered 8 178 [.ref (a 0), .int x1] (mdW z a σ) (some (.int r)) (mdW z a σ') := by
  refine lm_C.of (by decide) rfl (Nat.le_of_ble_eq_true rfl) (own := RX7) rfl ?_
  intro p e s m_ args below meth c C hr hk hA
  show lm_St p l e ({ frames := 8, cells := 0, slots := 0, locals := 178 }) s m_ args below meth c D (va_A (mdW z a σ) s.heap.size) 3 0 0 (lm_End below D (some (.int r)) (mdW z a σ) (mdW z a σ') args s) false (mdW z a σ) 0 [(0, .ref (a 0)), (1, .int x1)] []
  rw [F_X7_ifOrdered] at hF
  refine lm_iload_n C dX7_ifOrdered_0 rfl 1 rfl rfl ?_
  refine lm_iconst C (v := (0 : Int32)) dX7_ifOrdered_1 (by decide) rfl ?_
  refine lm_iconst C (v := (2 : Int32)) dX7_ifOrdered_2 (by decide) rfl ?_
  obtain ⟨r1, qr1, hF⟩ := lm_bde hF
  refine lm_callSR C (n := 3) (m_X7_in D z zo l   x1 (0 : Int32) (2 : Int32) r1 qr1) gX7_ifOrdered_X7_in rfl (by decide +kernel) ⟨Nat.le_of_ble_eq_true rfl, Nat.le_of_ble_eq_true rfl⟩ ⟨Nat.le_of_ble_eq_true rfl, Nat.le_of_ble_eq_true rfl⟩ (fun _ h => absurd h List.not_mem_nil) rfl rfl (Nat.le_of_ble_eq_true rfl) dX7_ifOrdered_3 (st' := [.int r1]) rfl rfl ?_
  refine lm_if_ne C (tgt := 11) dX7_ifOrdered_6 (by decide) rfl (fun c2 => ?_) (fun c2 => ?_)
  · have hF := lm_brt hF c2
    refine lm_aload_n C dX7_ifOrdered_11 rfl 0 rfl rfl ?_
    obtain ⟨σ3, qσ3, hF⟩ := lm_bde hF
    refine lm_callV C (n := 0) (ci := 7) (w' := (mdW z a σ3)) hA (m_X7_putsAside D z zo l a σ  σ3 qσ3) gX7_ifOrdered_X7_putsAside rfl (by decide +kernel) ⟨Nat.le_of_ble_eq_true rfl, Nat.le_of_ble_eq_true rfl⟩ ⟨Nat.le_of_ble_eq_true rfl, Nat.le_of_ble_eq_true rfl⟩ 0 rfl rfl lm_pr lm_pr' rfl rfl (Nat.le_of_ble_eq_true rfl) dX7_ifOrdered_12 (st' := []) rfl rfl ?_
    refine lm_iload_n C dX7_ifOrdered_15 rfl 1 rfl rfl ?_
    refine lm_iconst C (v := (1 : Int32)) dX7_ifOrdered_16 (by decide) rfl ?_
    refine lm_icmp_ne C (tgt := 24) dX7_ifOrdered_17 (by decide) rfl (fun c4 => ?_) (fun c4 => ?_)
    · have hF := lm_brt hF c4
      refine lm_iload_n C dX7_ifOrdered_24 rfl 1 rfl rfl ?_
      refine lm_iconst C (v := (2 : Int32)) dX7_ifOrdered_25 (by decide) rfl ?_
      refine lm_icmp_ne C (tgt := 33) dX7_ifOrdered_26 (by decide) rfl (fun c5 => ?_) (fun c5 => ?_)
      · have hF := lm_brt hF c5
        refine lm_aload_n C dX7_ifOrdered_33 rfl 0 rfl rfl ?_
        refine lm_bipush C (v := (20 : Int32)) dX7_ifOrdered_34 (by decide) rfl ?_
        obtain ⟨r7, σ6, qσ6, hF⟩ := lm_b2e hF
        refine lm_callV C (n := 1) (ci := 7) (w' := (mdW z a σ6)) hA (m_X7_steps D z zo l a σ3 (20 : Int32) r7 σ6 qσ6) gX7_ifOrdered_X7_steps rfl (by decide +kernel) ⟨Nat.le_of_ble_eq_true rfl, Nat.le_of_ble_eq_true rfl⟩ ⟨Nat.le_of_ble_eq_true rfl, Nat.le_of_ble_eq_true rfl⟩ 0 rfl rfl lm_pr lm_pr' rfl rfl (Nat.le_of_ble_eq_true rfl) dX7_ifOrdered_36 (st' := [.int r7]) rfl rfl ?_
        refine lm_istore_n C (lv' := [(0, .ref (a 0)), (1, .int x1), (2, .int r7)]) dX7_ifOrdered_39 rfl (by decide) rfl [1, 2, 0] rfl rfl ?_
        refine lm_aload_n C dX7_ifOrdered_40 rfl 0 rfl rfl ?_
        obtain ⟨σ8, qσ8, hF⟩ := lm_bde hF
        refine lm_callV C (n := 0) (ci := 7) (w' := (mdW z a σ8)) hA (m_X7_putsBack D z zo l a σ6  σ8 qσ8) gX7_ifOrdered_X7_putsBack rfl (by decide +kernel) ⟨Nat.le_of_ble_eq_true rfl, Nat.le_of_ble_eq_true rfl⟩ ⟨Nat.le_of_ble_eq_true rfl, Nat.le_of_ble_eq_true rfl⟩ 0 rfl rfl lm_pr lm_pr' rfl rfl (Nat.le_of_ble_eq_true rfl) dX7_ifOrdered_41 (st' := []) rfl rfl ?_
        refine lm_iload_n C dX7_ifOrdered_44 rfl 2 rfl rfl ?_
        cases hF
        exact lm_iret C hr hk rfl rfl dX7_ifOrdered_45
      · have hF := lm_brf hF c5
        refine lm_aload_n C dX7_ifOrdered_29 rfl 0 rfl rfl ?_
        obtain ⟨σ9, qσ9, hF⟩ := lm_bde hF
        refine lm_callV C (n := 0) (ci := 7) (w' := (mdW z a σ9)) hA (m_X7_turns D z zo l a σ3  σ9 qσ9) gX7_ifOrdered_X7_turns rfl (by decide +kernel) ⟨Nat.le_of_ble_eq_true rfl, Nat.le_of_ble_eq_true rfl⟩ ⟨Nat.le_of_ble_eq_true rfl, Nat.le_of_ble_eq_true rfl⟩ 0 rfl rfl lm_pr lm_pr' rfl rfl (Nat.le_of_ble_eq_true rfl) dX7_ifOrdered_30 (st' := []) rfl rfl ?_
        refine lm_aload_n C dX7_ifOrdered_33 rfl 0 rfl rfl ?_
        refine lm_bipush C (v := (20 : Int32)) dX7_ifOrdered_34 (by decide) rfl ?_
        obtain ⟨r11, σ10, qσ10, hF⟩ := lm_b2e hF
        refine lm_callV C (n := 1) (ci := 7) (w' := (mdW z a σ10)) hA (m_X7_steps D z zo l a σ9 (20 : Int32) r11 σ10 qσ10) gX7_ifOrdered_X7_steps rfl (by decide +kernel) ⟨Nat.le_of_ble_eq_true rfl, Nat.le_of_ble_eq_true rfl⟩ ⟨Nat.le_of_ble_eq_true rfl, Nat.le_of_ble_eq_true rfl⟩ 0 rfl rfl lm_pr lm_pr' rfl rfl (Nat.le_of_ble_eq_true rfl) dX7_ifOrdered_36 (st' := [.int r11]) rfl rfl ?_
        refine lm_istore_n C (lv' := [(0, .ref (a 0)), (1, .int x1), (2, .int r11)]) dX7_ifOrdered_39 rfl (by decide) rfl [1, 2, 0] rfl rfl ?_
        refine lm_aload_n C dX7_ifOrdered_40 rfl 0 rfl rfl ?_
        obtain ⟨σ12, qσ12, hF⟩ := lm_bde hF
        refine lm_callV C (n := 0) (ci := 7) (w' := (mdW z a σ12)) hA (m_X7_putsBack D z zo l a σ10  σ12 qσ12) gX7_ifOrdered_X7_putsBack rfl (by decide +kernel) ⟨Nat.le_of_ble_eq_true rfl, Nat.le_of_ble_eq_true rfl⟩ ⟨Nat.le_of_ble_eq_true rfl, Nat.le_of_ble_eq_true rfl⟩ 0 rfl rfl lm_pr lm_pr' rfl rfl (Nat.le_of_ble_eq_true rfl) dX7_ifOrdered_41 (st' := []) rfl rfl ?_
        refine lm_iload_n C dX7_ifOrdered_44 rfl 2 rfl rfl ?_
        cases hF
        exact lm_iret C hr hk rfl rfl dX7_ifOrdered_45
    · have hF := lm_brf hF c4
      refine lm_aload_n C dX7_ifOrdered_20 rfl 0 rfl rfl ?_
      obtain ⟨σ13, qσ13, hF⟩ := lm_bde hF
      refine lm_callV C (n := 0) (ci := 7) (w' := (mdW z a σ13)) hA (m_X7_sorts D z zo l a σ3  σ13 qσ13) gX7_ifOrdered_X7_sorts rfl (by decide +kernel) ⟨Nat.le_of_ble_eq_true rfl, Nat.le_of_ble_eq_true rfl⟩ ⟨Nat.le_of_ble_eq_true rfl, Nat.le_of_ble_eq_true rfl⟩ 0 rfl rfl lm_pr lm_pr' rfl rfl (Nat.le_of_ble_eq_true rfl) dX7_ifOrdered_21 (st' := []) rfl rfl ?_
      refine lm_iload_n C dX7_ifOrdered_24 rfl 1 rfl rfl ?_
      refine lm_iconst C (v := (2 : Int32)) dX7_ifOrdered_25 (by decide) rfl ?_
      refine lm_icmp_ne C (tgt := 33) dX7_ifOrdered_26 (by decide) rfl (fun c14 => ?_) (fun c14 => ?_)
      · have hF := lm_brt hF c14
        refine lm_aload_n C dX7_ifOrdered_33 rfl 0 rfl rfl ?_
        refine lm_bipush C (v := (20 : Int32)) dX7_ifOrdered_34 (by decide) rfl ?_
        obtain ⟨r16, σ15, qσ15, hF⟩ := lm_b2e hF
        refine lm_callV C (n := 1) (ci := 7) (w' := (mdW z a σ15)) hA (m_X7_steps D z zo l a σ13 (20 : Int32) r16 σ15 qσ15) gX7_ifOrdered_X7_steps rfl (by decide +kernel) ⟨Nat.le_of_ble_eq_true rfl, Nat.le_of_ble_eq_true rfl⟩ ⟨Nat.le_of_ble_eq_true rfl, Nat.le_of_ble_eq_true rfl⟩ 0 rfl rfl lm_pr lm_pr' rfl rfl (Nat.le_of_ble_eq_true rfl) dX7_ifOrdered_36 (st' := [.int r16]) rfl rfl ?_
        refine lm_istore_n C (lv' := [(0, .ref (a 0)), (1, .int x1), (2, .int r16)]) dX7_ifOrdered_39 rfl (by decide) rfl [1, 2, 0] rfl rfl ?_
        refine lm_aload_n C dX7_ifOrdered_40 rfl 0 rfl rfl ?_
        obtain ⟨σ17, qσ17, hF⟩ := lm_bde hF
        refine lm_callV C (n := 0) (ci := 7) (w' := (mdW z a σ17)) hA (m_X7_putsBack D z zo l a σ15  σ17 qσ17) gX7_ifOrdered_X7_putsBack rfl (by decide +kernel) ⟨Nat.le_of_ble_eq_true rfl, Nat.le_of_ble_eq_true rfl⟩ ⟨Nat.le_of_ble_eq_true rfl, Nat.le_of_ble_eq_true rfl⟩ 0 rfl rfl lm_pr lm_pr' rfl rfl (Nat.le_of_ble_eq_true rfl) dX7_ifOrdered_41 (st' := []) rfl rfl ?_
        refine lm_iload_n C dX7_ifOrdered_44 rfl 2 rfl rfl ?_
        cases hF
        exact lm_iret C hr hk rfl rfl dX7_ifOrdered_45
      · have hF := lm_brf hF c14
        refine lm_aload_n C dX7_ifOrdered_29 rfl 0 rfl rfl ?_
        obtain ⟨σ18, qσ18, hF⟩ := lm_bde hF
        refine lm_callV C (n := 0) (ci := 7) (w' := (mdW z a σ18)) hA (m_X7_turns D z zo l a σ13  σ18 qσ18) gX7_ifOrdered_X7_turns rfl (by decide +kernel) ⟨Nat.le_of_ble_eq_true rfl, Nat.le_of_ble_eq_true rfl⟩ ⟨Nat.le_of_ble_eq_true rfl, Nat.le_of_ble_eq_true rfl⟩ 0 rfl rfl lm_pr lm_pr' rfl rfl (Nat.le_of_ble_eq_true rfl) dX7_ifOrdered_30 (st' := []) rfl rfl ?_
        refine lm_aload_n C dX7_ifOrdered_33 rfl 0 rfl rfl ?_
        refine lm_bipush C (v := (20 : Int32)) dX7_ifOrdered_34 (by decide) rfl ?_
        obtain ⟨r20, σ19, qσ19, hF⟩ := lm_b2e hF
        refine lm_callV C (n := 1) (ci := 7) (w' := (mdW z a σ19)) hA (m_X7_steps D z zo l a σ18 (20 : Int32) r20 σ19 qσ19) gX7_ifOrdered_X7_steps rfl (by decide +kernel) ⟨Nat.le_of_ble_eq_true rfl, Nat.le_of_ble_eq_true rfl⟩ ⟨Nat.le_of_ble_eq_true rfl, Nat.le_of_ble_eq_true rfl⟩ 0 rfl rfl lm_pr lm_pr' rfl rfl (Nat.le_of_ble_eq_true rfl) dX7_ifOrdered_36 (st' := [.int r20]) rfl rfl ?_
        refine lm_istore_n C (lv' := [(0, .ref (a 0)), (1, .int x1), (2, .int r20)]) dX7_ifOrdered_39 rfl (by decide) rfl [1, 2, 0] rfl rfl ?_
        refine lm_aload_n C dX7_ifOrdered_40 rfl 0 rfl rfl ?_
        obtain ⟨σ21, qσ21, hF⟩ := lm_bde hF
        refine lm_callV C (n := 0) (ci := 7) (w' := (mdW z a σ21)) hA (m_X7_putsBack D z zo l a σ19  σ21 qσ21) gX7_ifOrdered_X7_putsBack rfl (by decide +kernel) ⟨Nat.le_of_ble_eq_true rfl, Nat.le_of_ble_eq_true rfl⟩ ⟨Nat.le_of_ble_eq_true rfl, Nat.le_of_ble_eq_true rfl⟩ 0 rfl rfl lm_pr lm_pr' rfl rfl (Nat.le_of_ble_eq_true rfl) dX7_ifOrdered_41 (st' := []) rfl rfl ?_
        refine lm_iload_n C dX7_ifOrdered_44 rfl 2 rfl rfl ?_
        cases hF
        exact lm_iret C hr hk rfl rfl dX7_ifOrdered_45
  · have hF := lm_brf hF c2
    refine lm_iconst C (v := (-1 : Int32)) dX7_ifOrdered_9 (by decide) rfl ?_
    cases hF
    exact lm_iret C hr hk rfl rfl dX7_ifOrdered_10
def F_X7_leastBound_L11 : Nat → Hp → Int32 → Int32 → Int32 → Option (Int32 × (Hp))
  | 0, _, _, _, _ => none
  | n + 1, σx, x1, x2, x3 =>
    lm_br ((60 : Int32) < x3)
     (some (x1, σx))
     (lm_b2 (F_X7_ifBound σx x3 (0 : Int32)) fun r5 σ4 =>
     lm_br (x2 ≤ r5)
      (F_X7_leastBound_L11 n σ4 x1 x2 (x3 + (1 : Int32)))
      (F_X7_leastBound_L11 n σ4 x3 r5 (x3 + (1 : Int32))))
def F_X7_leastBound (σ : Hp)  : Option (Int32 × (Hp)) :=
  lm_b2 (F_X7_ifBound σ (0 : Int32) (0 : Int32)) fun r2 σ1 =>
  F_X7_leastBound_L11 1000 σ1 (0 : Int32) r2 (1 : Int32)
set_option maxRecDepth 100000 in
set_option maxHeartbeats 4000000 in
theorem m_X7_leastBound (D : va_G) (z zo : ClassId) (l : Launch) (a : Nat → Nat) (σ : Hp)  (r : Int32) (σ' : Hp) (hF : F_X7_leastBound σ  = some (r, σ')) : lm_C D z zo l yX7_leastBound wsX7_leastBound 9 206 [.ref (a 0)] (mdW z a σ) (some (.int r)) (mdW z a σ') := by
  refine lm_C.of (by decide) rfl (Nat.le_of_ble_eq_true rfl) (own := RX7) rfl ?_
  intro p e s m_ args below meth c C hr hk hA
  have loop_11 : ∀ (n : Nat) (σx : Hp) (x1 : Int32) (x2 : Int32) (x3 : Int32), F_X7_leastBound_L11 n σx x1 x2 x3 = some (r, σ') → lm_St p l e ({ frames := 9, cells := 0, slots := 0, locals := 206 }) s m_ args below meth c D (va_A (mdW z a σ) s.heap.size) 5 0 0 (lm_End below D (some (.int r)) (mdW z a σ) (mdW z a σ') args s) false (mdW z a σx) 11 [(0, .ref (a 0)), (1, .int x1), (2, .int x2), (3, .int x3)] [] := by
    intro n
    induction n with
    | zero => intro σx x1 x2 x3 hF; cases (show (none : Option _) = some _ from hF)
    | succ n ih =>
      intro σx x1 x2 x3 hF
      rw [F_X7_leastBound_L11] at hF
      refine lm_iload_n C dX7_leastBound_11 rfl 3 rfl rfl ?_
      refine lm_bipush C (v := (60 : Int32)) dX7_leastBound_12 (by decide) rfl ?_
      refine lm_icmp_gt C (tgt := 56) dX7_leastBound_14 (by decide) rfl (fun c3 => ?_) (fun c3 => ?_)
      · have hF := lm_brt hF c3
        refine lm_iload_n C dX7_leastBound_56 rfl 1 rfl rfl ?_
        cases hF
        exact lm_iret C hr hk rfl rfl dX7_leastBound_57
      · have hF := lm_brf hF c3
        refine lm_aload_n C dX7_leastBound_17 rfl 0 rfl rfl ?_
        refine lm_iload_n C dX7_leastBound_18 rfl 3 rfl rfl ?_
        refine lm_iconst C (v := (0 : Int32)) dX7_leastBound_19 (by decide) rfl ?_
        obtain ⟨r5, σ4, qσ4, hF⟩ := lm_b2e hF
        refine lm_callV C (n := 2) (ci := 7) (w' := (mdW z a σ4)) hA (m_X7_ifBound D z zo l a σx x3 (0 : Int32) r5 σ4 qσ4) gX7_leastBound_X7_ifBound rfl (by decide +kernel) ⟨Nat.le_of_ble_eq_true rfl, Nat.le_of_ble_eq_true rfl⟩ ⟨Nat.le_of_ble_eq_true rfl, Nat.le_of_ble_eq_true rfl⟩ 0 rfl rfl lm_pr lm_pr' rfl rfl (Nat.le_of_ble_eq_true rfl) dX7_leastBound_20 (st' := [.int r5]) rfl rfl ?_
        refine lm_istore C (lv' := [(0, .ref (a 0)), (1, .int x1), (2, .int x2), (3, .int x3), (4, .int r5)]) dX7_leastBound_23 (by decide) rfl [1, 2, 3, 4, 0] rfl rfl ?_
        refine lm_iload C dX7_leastBound_25 4 rfl rfl ?_
        refine lm_iload_n C dX7_leastBound_27 rfl 2 rfl rfl ?_
        refine lm_icmp_ge C (tgt := 35) dX7_leastBound_28 (by decide) rfl (fun c6 => ?_) (fun c6 => ?_)
        · have hF := lm_brt hF c6
          refine lm_iload_n C dX7_leastBound_35 rfl 1 rfl rfl ?_
          refine lm_istore_n C (lv' := [(0, .ref (a 0)), (1, .int x1), (2, .int x2), (3, .int x3), (4, .int r5)]) dX7_leastBound_36 rfl (by decide) rfl [1, 0, 2, 3, 4] rfl rfl ?_
          refine lm_iload C dX7_leastBound_37 4 rfl rfl ?_
          refine lm_iload_n C dX7_leastBound_39 rfl 2 rfl rfl ?_
          refine lm_icmp_ge C (tgt := 48) dX7_leastBound_40 (by decide) rfl (fun c7 => ?_) (fun c7 => ?_)
          · refine lm_iload_n C dX7_leastBound_48 rfl 2 rfl rfl ?_
            refine lm_istore_n C (lv' := [(0, .ref (a 0)), (1, .int x1), (2, .int x2), (3, .int x3), (4, .int r5)]) dX7_leastBound_49 rfl (by decide) rfl [1, 2, 0, 3, 4] rfl rfl ?_
            refine lm_iinc C (lv' := [(0, .ref (a 0)), (1, .int x1), (2, .int x2), (3, .int (x3 + (1 : Int32))), (4, .int r5)]) (x3 + (1 : Int32)) dX7_leastBound_50 3 rfl rfl (by decide) rfl [1, 2, 3, 0, 4] rfl rfl ?_
            refine lm_goto C (tgt := 11) dX7_leastBound_53 (by decide) ?_
            refine lm_lvsub (lv' := [(0, .ref (a 0)), (1, .int x1), (2, .int x2), (3, .int (x3 + (1 : Int32)))]) [0, 1, 2, 3] rfl ?_
            exact ih σ4 x1 x2 (x3 + (1 : Int32)) hF
          · exact (by simp_all : False).elim
        · have hF := lm_brf hF c6
          refine lm_iload_n C dX7_leastBound_31 rfl 3 rfl rfl ?_
          refine lm_goto C (tgt := 36) dX7_leastBound_32 (by decide) ?_
          refine lm_istore_n C (lv' := [(0, .ref (a 0)), (1, .int x3), (2, .int x2), (3, .int x3), (4, .int r5)]) dX7_leastBound_36 rfl (by decide) rfl [1, 0, 2, 3, 4] rfl rfl ?_
          refine lm_iload C dX7_leastBound_37 4 rfl rfl ?_
          refine lm_iload_n C dX7_leastBound_39 rfl 2 rfl rfl ?_
          refine lm_icmp_ge C (tgt := 48) dX7_leastBound_40 (by decide) rfl (fun c8 => ?_) (fun c8 => ?_)
          · exact (by simp_all : False).elim
          · refine lm_iload C dX7_leastBound_43 4 rfl rfl ?_
            refine lm_goto C (tgt := 49) dX7_leastBound_45 (by decide) ?_
            refine lm_istore_n C (lv' := [(0, .ref (a 0)), (1, .int x3), (2, .int r5), (3, .int x3), (4, .int r5)]) dX7_leastBound_49 rfl (by decide) rfl [1, 2, 0, 3, 4] rfl rfl ?_
            refine lm_iinc C (lv' := [(0, .ref (a 0)), (1, .int x3), (2, .int r5), (3, .int (x3 + (1 : Int32))), (4, .int r5)]) (x3 + (1 : Int32)) dX7_leastBound_50 3 rfl rfl (by decide) rfl [1, 2, 3, 0, 4] rfl rfl ?_
            refine lm_goto C (tgt := 11) dX7_leastBound_53 (by decide) ?_
            refine lm_lvsub (lv' := [(0, .ref (a 0)), (1, .int x3), (2, .int r5), (3, .int (x3 + (1 : Int32)))]) [0, 1, 2, 3] rfl ?_
            exact ih σ4 x3 r5 (x3 + (1 : Int32)) hF
  show lm_St p l e ({ frames := 9, cells := 0, slots := 0, locals := 206 }) s m_ args below meth c D (va_A (mdW z a σ) s.heap.size) 5 0 0 (lm_End below D (some (.int r)) (mdW z a σ) (mdW z a σ') args s) false (mdW z a σ) 0 [(0, .ref (a 0))] []
  rw [F_X7_leastBound] at hF
  refine lm_iconst C (v := (0 : Int32)) dX7_leastBound_0 (by decide) rfl ?_
  refine lm_istore_n C (lv' := [(0, .ref (a 0)), (1, .int (0 : Int32))]) dX7_leastBound_1 rfl (by decide) rfl [1, 0] rfl rfl ?_
  refine lm_aload_n C dX7_leastBound_2 rfl 0 rfl rfl ?_
  refine lm_iconst C (v := (0 : Int32)) dX7_leastBound_3 (by decide) rfl ?_
  refine lm_iconst C (v := (0 : Int32)) dX7_leastBound_4 (by decide) rfl ?_
  obtain ⟨r2, σ1, qσ1, hF⟩ := lm_b2e hF
  refine lm_callV C (n := 2) (ci := 7) (w' := (mdW z a σ1)) hA (m_X7_ifBound D z zo l a σ (0 : Int32) (0 : Int32) r2 σ1 qσ1) gX7_leastBound_X7_ifBound rfl (by decide +kernel) ⟨Nat.le_of_ble_eq_true rfl, Nat.le_of_ble_eq_true rfl⟩ ⟨Nat.le_of_ble_eq_true rfl, Nat.le_of_ble_eq_true rfl⟩ 0 rfl rfl lm_pr lm_pr' rfl rfl (Nat.le_of_ble_eq_true rfl) dX7_leastBound_5 (st' := [.int r2]) rfl rfl ?_
  refine lm_istore_n C (lv' := [(0, .ref (a 0)), (1, .int (0 : Int32)), (2, .int r2)]) dX7_leastBound_8 rfl (by decide) rfl [1, 2, 0] rfl rfl ?_
  refine lm_iconst C (v := (1 : Int32)) dX7_leastBound_9 (by decide) rfl ?_
  refine lm_istore_n C (lv' := [(0, .ref (a 0)), (1, .int (0 : Int32)), (2, .int r2), (3, .int (1 : Int32))]) dX7_leastBound_10 rfl (by decide) rfl [1, 2, 3, 0] rfl rfl ?_
  exact loop_11 1000 σ1 (0 : Int32) r2 (1 : Int32) hF
def F_X7_undo_L22 : Nat → Hp → Int32 → Option (Int32 × (Hp))
  | 0, _, _ => none
  | n + 1, σx, x1 =>
    lm_br ((127 : Int32) ≤ x1)
     (some ((σx 0 5), σx))
     (lm_gi (((127 : Int32) * (σx 0 5)) + x1) 508
     (lm_gi x1 127
     (lm_lt (lm_u σx 1 (x1.toNatClampNeg) (σx 2 ((((127 : Int32) * (σx 0 5)) + x1)).toNatClampNeg)) fun σ5 =>
     F_X7_undo_L22 n σ5 (x1 + (1 : Int32)))))
def F_X7_undo (σ : Hp)  : Option (Int32 × (Hp)) :=
  lm_br (¬ (σ 0 5) = 0)
   (lm_lt (lm_u σ 0 5 ((σ 0 5) - (1 : Int32))) fun σ2 =>
   F_X7_undo_L22 1000 σ2 (0 : Int32))
   (some ((-2 : Int32), σ))
theorem in7_X7_undo : ∀ w ∈ u_ws RX7 TX7 14, w ∈ wsX7_undo := by decide +kernel
theorem fl35_X7_undo : Cond.fieldLink RX7 35 "LoopMemoModel" "pasts" "I" ∈ wsX7_undo := by decide +kernel
theorem fl7_X7_undo : Cond.fieldLink RX7 7 "LoopMemoModel" "s" "[I" ∈ wsX7_undo := by decide +kernel
theorem fl13_X7_undo : Cond.fieldLink RX7 13 "LoopMemoModel" "past" "[I" ∈ wsX7_undo := by decide +kernel
set_option maxRecDepth 100000 in
set_option maxHeartbeats 4000000 in
theorem m_X7_undo (D : va_G) (z zo : ClassId) (l : Launch) (a : Nat → Nat) (σ : Hp)  (r : Int32) (σ' : Hp) (hF : F_X7_undo σ  = some (r, σ')) : lm_C D z zo l yX7_undo wsX7_undo 0 0 [.ref (a 0)] (mdW z a σ) (some (.int r)) (mdW z a σ') := by
  refine lm_C.of (by decide) rfl (Nat.le_of_ble_eq_true rfl) (own := RX7) rfl ?_
  intro p e s m_ args below meth c C hr hk hA
  have loop_22 : ∀ (n : Nat) (σx : Hp) (x1 : Int32), F_X7_undo_L22 n σx x1 = some (r, σ') → lm_St p l e ({ frames := 0, cells := 0, slots := 0, locals := 0 }) s m_ args below meth c D (va_A (mdW z a σ) s.heap.size) 2 0 0 (lm_End below D (some (.int r)) (mdW z a σ) (mdW z a σ') args s) false (mdW z a σx) 22 [(0, .ref (a 0)), (1, .int x1)] [] := by
    intro n
    induction n with
    | zero => intro σx x1 hF; cases (show (none : Option _) = some _ from hF)
    | succ n ih =>
      intro σx x1 hF
      rw [F_X7_undo_L22] at hF
      refine lm_iload_n C dX7_undo_22 rfl 1 rfl rfl ?_
      refine lm_bipush C (v := (127 : Int32)) dX7_undo_23 (by decide) rfl ?_
      refine lm_icmp_ge C (tgt := 54) dX7_undo_25 (by decide) rfl (fun c3 => ?_) (fun c3 => ?_)
      · have hF := lm_brt hF c3
        refine lm_aload_n C dX7_undo_54 rfl 0 rfl rfl ?_
        refine lm_getf C (T := TX7) (N := 14) (v := .int (σx 0 5)) in7_X7_undo 0 rfl rfl 5 (by decide) fl35_X7_undo rfl rfl dX7_undo_55 rfl ?_
        cases hF
        exact lm_iret C hr hk rfl rfl dX7_undo_58
      · have hF := lm_brf hF c3
        refine lm_aload_n C dX7_undo_28 rfl 0 rfl rfl ?_
        refine lm_getf C (T := TX7) (N := 14) (v := .ref (a 1)) in7_X7_undo 0 rfl rfl 0 (by decide) fl7_X7_undo rfl rfl dX7_undo_29 rfl ?_
        refine lm_iload_n C dX7_undo_32 rfl 1 rfl rfl ?_
        refine lm_aload_n C dX7_undo_33 rfl 0 rfl rfl ?_
        refine lm_getf C (T := TX7) (N := 14) (v := .ref (a 2)) in7_X7_undo 0 rfl rfl 1 (by decide) fl13_X7_undo rfl rfl dX7_undo_34 rfl ?_
        refine lm_bipush C (v := (127 : Int32)) dX7_undo_37 (by decide) rfl ?_
        refine lm_aload_n C dX7_undo_39 rfl 0 rfl rfl ?_
        refine lm_getf C (T := TX7) (N := 14) (v := .int (σx 0 5)) in7_X7_undo 0 rfl rfl 5 (by decide) fl35_X7_undo rfl rfl dX7_undo_40 rfl ?_
        refine lm_imul C dX7_undo_43 rfl rfl ?_
        refine lm_iload_n C dX7_undo_44 rfl 1 rfl rfl ?_
        refine lm_iadd C dX7_undo_45 rfl rfl ?_
        obtain ⟨b4, hF⟩ := lm_gie hF
        refine lm_iald C (v := (σx 2 ((((127 : Int32) * (σx 0 5)) + x1)).toNatClampNeg)) 2 rfl b4 rfl dX7_undo_46 rfl ?_
        obtain ⟨b6, hF⟩ := lm_gie hF
        obtain ⟨σ5, eσ5, hF⟩ := lm_lte hF
        refine lm_iast C (w' := (mdW z a σ5)) 1 rfl b6 dX7_undo_47 (by rw [← eσ5]; rfl) rfl ?_
        refine lm_iinc C (lv' := [(0, .ref (a 0)), (1, .int (x1 + (1 : Int32)))]) (x1 + (1 : Int32)) dX7_undo_48 1 rfl rfl (by decide) rfl [1, 0] rfl rfl ?_
        refine lm_goto C (tgt := 22) dX7_undo_51 (by decide) ?_
        exact ih σ5 (x1 + (1 : Int32)) hF
  show lm_St p l e ({ frames := 0, cells := 0, slots := 0, locals := 0 }) s m_ args below meth c D (va_A (mdW z a σ) s.heap.size) 2 0 0 (lm_End below D (some (.int r)) (mdW z a σ) (mdW z a σ') args s) false (mdW z a σ) 0 [(0, .ref (a 0))] []
  rw [F_X7_undo] at hF
  refine lm_aload_n C dX7_undo_0 rfl 0 rfl rfl ?_
  refine lm_getf C (T := TX7) (N := 14) (v := .int (σ 0 5)) in7_X7_undo 0 rfl rfl 5 (by decide) fl35_X7_undo rfl rfl dX7_undo_1 rfl ?_
  refine lm_if_ne C (tgt := 10) dX7_undo_4 (by decide) rfl (fun c1 => ?_) (fun c1 => ?_)
  · have hF := lm_brt hF c1
    refine lm_aload_n C dX7_undo_10 rfl 0 rfl rfl ?_
    refine lm_dup C dX7_undo_11 rfl rfl ?_
    refine lm_getf C (T := TX7) (N := 14) (v := .int (σ 0 5)) in7_X7_undo 0 rfl rfl 5 (by decide) fl35_X7_undo rfl rfl dX7_undo_12 rfl ?_
    refine lm_iconst C (v := (1 : Int32)) dX7_undo_15 (by decide) rfl ?_
    refine lm_isub C dX7_undo_16 rfl rfl ?_
    obtain ⟨σ2, eσ2, hF⟩ := lm_lte hF
    refine lm_putf C (T := TX7) (N := 14) (ty := .int) (v := .int ((σ 0 5) - (1 : Int32))) (w' := (mdW z a σ2)) in7_X7_undo tyX7 tyX7_ok nmX7 0 rfl rfl 5 (by decide) fl35_X7_undo rfl rfl rfl rfl rfl (Nat.le_of_ble_eq_true rfl) dX7_undo_17 (by rw [← eσ2]; rfl) rfl ?_
    refine lm_iconst C (v := (0 : Int32)) dX7_undo_20 (by decide) rfl ?_
    refine lm_istore_n C (lv' := [(0, .ref (a 0)), (1, .int (0 : Int32))]) dX7_undo_21 rfl (by decide) rfl [1, 0] rfl rfl ?_
    exact loop_22 1000 σ2 (0 : Int32) hF
  · have hF := lm_brf hF c1
    refine lm_bipush C (v := (-2 : Int32)) dX7_undo_7 (by decide) rfl ?_
    cases hF
    exact lm_iret C hr hk rfl rfl dX7_undo_9
def F_X7_save_L7 : Nat → Hp → Int32 → Option (Int32 × (Hp))
  | 0, _, _ => none
  | n + 1, σx, x1 =>
    lm_br ((127 : Int32) ≤ x1)
     (lm_bd (F_X7_known σx) fun r3 =>
     some (r3, σx))
     (lm_gi x1 127
     (lm_gi x1 127
     (lm_lt (lm_u σx 3 (x1.toNatClampNeg) (σx 1 x1.toNatClampNeg)) fun σ5 =>
     F_X7_save_L7 n σ5 (x1 + (1 : Int32)))))
def F_X7_save (σ : Hp)  : Option (Int32 × (Hp)) :=
  lm_lt (lm_u σ 0 4 (1 : Int32)) fun σ1 =>
  F_X7_save_L7 1000 σ1 (0 : Int32)
theorem in7_X7_save : ∀ w ∈ u_ws RX7 TX7 14, w ∈ wsX7_save := by decide +kernel
theorem fl16_X7_save : Cond.fieldLink RX7 16 "LoopMemoModel" "kept" "[I" ∈ wsX7_save := by decide +kernel
theorem fl7_X7_save : Cond.fieldLink RX7 7 "LoopMemoModel" "s" "[I" ∈ wsX7_save := by decide +kernel
theorem fl193_X7_save : Cond.fieldLink RX7 193 "LoopMemoModel" "isKept" "Z" ∈ wsX7_save := by decide +kernel
set_option maxRecDepth 100000 in
set_option maxHeartbeats 4000000 in
theorem m_X7_save (D : va_G) (z zo : ClassId) (l : Launch) (a : Nat → Nat) (σ : Hp)  (r : Int32) (σ' : Hp) (hF : F_X7_save σ  = some (r, σ')) : lm_C D z zo l yX7_save wsX7_save 2 43 [.ref (a 0)] (mdW z a σ) (some (.int r)) (mdW z a σ') := by
  refine lm_C.of (by decide) rfl (Nat.le_of_ble_eq_true rfl) (own := RX7) rfl ?_
  intro p e s m_ args below meth c C hr hk hA
  have loop_7 : ∀ (n : Nat) (σx : Hp) (x1 : Int32), F_X7_save_L7 n σx x1 = some (r, σ') → lm_St p l e ({ frames := 2, cells := 0, slots := 0, locals := 43 }) s m_ args below meth c D (va_A (mdW z a σ) s.heap.size) 2 0 0 (lm_End below D (some (.int r)) (mdW z a σ) (mdW z a σ') args s) false (mdW z a σx) 7 [(0, .ref (a 0)), (1, .int x1)] [] := by
    intro n
    induction n with
    | zero => intro σx x1 hF; cases (show (none : Option _) = some _ from hF)
    | succ n ih =>
      intro σx x1 hF
      rw [F_X7_save_L7] at hF
      refine lm_iload_n C dX7_save_7 rfl 1 rfl rfl ?_
      refine lm_bipush C (v := (127 : Int32)) dX7_save_8 (by decide) rfl ?_
      refine lm_icmp_ge C (tgt := 31) dX7_save_10 (by decide) rfl (fun c2 => ?_) (fun c2 => ?_)
      · have hF := lm_brt hF c2
        refine lm_aload_n C dX7_save_31 rfl 0 rfl rfl ?_
        obtain ⟨r3, qr3, hF⟩ := lm_bde hF
        refine lm_callVR C (n := 0) (ci := 7) (m_X7_known D z zo l a σx  r3 qr3) gX7_save_X7_known rfl (by decide +kernel) ⟨Nat.le_of_ble_eq_true rfl, Nat.le_of_ble_eq_true rfl⟩ ⟨Nat.le_of_ble_eq_true rfl, Nat.le_of_ble_eq_true rfl⟩ 0 rfl rfl (fun _ h => h) rfl rfl (Nat.le_of_ble_eq_true rfl) dX7_save_32 (st' := [.int r3]) rfl rfl ?_
        cases hF
        exact lm_iret C hr hk rfl rfl dX7_save_35
      · have hF := lm_brf hF c2
        refine lm_aload_n C dX7_save_13 rfl 0 rfl rfl ?_
        refine lm_getf C (T := TX7) (N := 14) (v := .ref (a 3)) in7_X7_save 0 rfl rfl 2 (by decide) fl16_X7_save rfl rfl dX7_save_14 rfl ?_
        refine lm_iload_n C dX7_save_17 rfl 1 rfl rfl ?_
        refine lm_aload_n C dX7_save_18 rfl 0 rfl rfl ?_
        refine lm_getf C (T := TX7) (N := 14) (v := .ref (a 1)) in7_X7_save 0 rfl rfl 0 (by decide) fl7_X7_save rfl rfl dX7_save_19 rfl ?_
        refine lm_iload_n C dX7_save_22 rfl 1 rfl rfl ?_
        obtain ⟨b4, hF⟩ := lm_gie hF
        refine lm_iald C (v := (σx 1 x1.toNatClampNeg)) 1 rfl b4 rfl dX7_save_23 rfl ?_
        obtain ⟨b6, hF⟩ := lm_gie hF
        obtain ⟨σ5, eσ5, hF⟩ := lm_lte hF
        refine lm_iast C (w' := (mdW z a σ5)) 3 rfl b6 dX7_save_24 (by rw [← eσ5]; rfl) rfl ?_
        refine lm_iinc C (lv' := [(0, .ref (a 0)), (1, .int (x1 + (1 : Int32)))]) (x1 + (1 : Int32)) dX7_save_25 1 rfl rfl (by decide) rfl [1, 0] rfl rfl ?_
        refine lm_goto C (tgt := 7) dX7_save_28 (by decide) ?_
        exact ih σ5 (x1 + (1 : Int32)) hF
  show lm_St p l e ({ frames := 2, cells := 0, slots := 0, locals := 43 }) s m_ args below meth c D (va_A (mdW z a σ) s.heap.size) 2 0 0 (lm_End below D (some (.int r)) (mdW z a σ) (mdW z a σ') args s) false (mdW z a σ) 0 [(0, .ref (a 0))] []
  rw [F_X7_save] at hF
  refine lm_aload_n C dX7_save_0 rfl 0 rfl rfl ?_
  refine lm_iconst C (v := (1 : Int32)) dX7_save_1 (by decide) rfl ?_
  obtain ⟨σ1, eσ1, hF⟩ := lm_lte hF
  refine lm_putf C (T := TX7) (N := 14) (ty := .boolean) (v := .int (1 : Int32)) (w' := (mdW z a σ1)) in7_X7_save tyX7 tyX7_ok nmX7 0 rfl rfl 4 (by decide) fl193_X7_save rfl rfl rfl rfl rfl (Nat.le_of_ble_eq_true rfl) dX7_save_2 (by rw [← eσ1]; rfl) rfl ?_
  refine lm_iconst C (v := (0 : Int32)) dX7_save_5 (by decide) rfl ?_
  refine lm_istore_n C (lv' := [(0, .ref (a 0)), (1, .int (0 : Int32))]) dX7_save_6 rfl (by decide) rfl [1, 0] rfl rfl ?_
  exact loop_7 1000 σ1 (0 : Int32) hF
def F_X7_restore_L16 : Nat → Hp → Int32 → Option (Int32 × (Hp))
  | 0, _, _ => none
  | n + 1, σx, x1 =>
    lm_br ((127 : Int32) ≤ x1)
     (lm_bd (F_X7_known σx) fun r4 =>
     some (r4, σx))
     (lm_gi x1 127
     (lm_gi x1 127
     (lm_lt (lm_u σx 1 (x1.toNatClampNeg) (σx 3 x1.toNatClampNeg)) fun σ6 =>
     F_X7_restore_L16 n σ6 (x1 + (1 : Int32)))))
def F_X7_restore (σ : Hp)  : Option (Int32 × (Hp)) :=
  lm_br (¬ (σ 0 4) = 0)
   (lm_bd (F_X7_changes σ) fun σ2 =>
   F_X7_restore_L16 1000 σ2 (0 : Int32))
   (some ((-2 : Int32), σ))
theorem in7_X7_restore : ∀ w ∈ u_ws RX7 TX7 14, w ∈ wsX7_restore := by decide +kernel
theorem fl193_X7_restore : Cond.fieldLink RX7 193 "LoopMemoModel" "isKept" "Z" ∈ wsX7_restore := by decide +kernel
theorem fl7_X7_restore : Cond.fieldLink RX7 7 "LoopMemoModel" "s" "[I" ∈ wsX7_restore := by decide +kernel
theorem fl16_X7_restore : Cond.fieldLink RX7 16 "LoopMemoModel" "kept" "[I" ∈ wsX7_restore := by decide +kernel
set_option maxRecDepth 100000 in
set_option maxHeartbeats 4000000 in
theorem m_X7_restore (D : va_G) (z zo : ClassId) (l : Launch) (a : Nat → Nat) (σ : Hp)  (r : Int32) (σ' : Hp) (hF : F_X7_restore σ  = some (r, σ')) : lm_C D z zo l yX7_restore wsX7_restore 2 43 [.ref (a 0)] (mdW z a σ) (some (.int r)) (mdW z a σ') := by
  refine lm_C.of (by decide) rfl (Nat.le_of_ble_eq_true rfl) (own := RX7) rfl ?_
  intro p e s m_ args below meth c C hr hk hA
  have loop_16 : ∀ (n : Nat) (σx : Hp) (x1 : Int32), F_X7_restore_L16 n σx x1 = some (r, σ') → lm_St p l e ({ frames := 2, cells := 0, slots := 0, locals := 43 }) s m_ args below meth c D (va_A (mdW z a σ) s.heap.size) 2 0 0 (lm_End below D (some (.int r)) (mdW z a σ) (mdW z a σ') args s) false (mdW z a σx) 16 [(0, .ref (a 0)), (1, .int x1)] [] := by
    intro n
    induction n with
    | zero => intro σx x1 hF; cases (show (none : Option _) = some _ from hF)
    | succ n ih =>
      intro σx x1 hF
      rw [F_X7_restore_L16] at hF
      refine lm_iload_n C dX7_restore_16 rfl 1 rfl rfl ?_
      refine lm_bipush C (v := (127 : Int32)) dX7_restore_17 (by decide) rfl ?_
      refine lm_icmp_ge C (tgt := 40) dX7_restore_19 (by decide) rfl (fun c3 => ?_) (fun c3 => ?_)
      · have hF := lm_brt hF c3
        refine lm_aload_n C dX7_restore_40 rfl 0 rfl rfl ?_
        obtain ⟨r4, qr4, hF⟩ := lm_bde hF
        refine lm_callVR C (n := 0) (ci := 7) (m_X7_known D z zo l a σx  r4 qr4) gX7_restore_X7_known rfl (by decide +kernel) ⟨Nat.le_of_ble_eq_true rfl, Nat.le_of_ble_eq_true rfl⟩ ⟨Nat.le_of_ble_eq_true rfl, Nat.le_of_ble_eq_true rfl⟩ 0 rfl rfl (fun _ h => h) rfl rfl (Nat.le_of_ble_eq_true rfl) dX7_restore_41 (st' := [.int r4]) rfl rfl ?_
        cases hF
        exact lm_iret C hr hk rfl rfl dX7_restore_44
      · have hF := lm_brf hF c3
        refine lm_aload_n C dX7_restore_22 rfl 0 rfl rfl ?_
        refine lm_getf C (T := TX7) (N := 14) (v := .ref (a 1)) in7_X7_restore 0 rfl rfl 0 (by decide) fl7_X7_restore rfl rfl dX7_restore_23 rfl ?_
        refine lm_iload_n C dX7_restore_26 rfl 1 rfl rfl ?_
        refine lm_aload_n C dX7_restore_27 rfl 0 rfl rfl ?_
        refine lm_getf C (T := TX7) (N := 14) (v := .ref (a 3)) in7_X7_restore 0 rfl rfl 2 (by decide) fl16_X7_restore rfl rfl dX7_restore_28 rfl ?_
        refine lm_iload_n C dX7_restore_31 rfl 1 rfl rfl ?_
        obtain ⟨b5, hF⟩ := lm_gie hF
        refine lm_iald C (v := (σx 3 x1.toNatClampNeg)) 3 rfl b5 rfl dX7_restore_32 rfl ?_
        obtain ⟨b7, hF⟩ := lm_gie hF
        obtain ⟨σ6, eσ6, hF⟩ := lm_lte hF
        refine lm_iast C (w' := (mdW z a σ6)) 1 rfl b7 dX7_restore_33 (by rw [← eσ6]; rfl) rfl ?_
        refine lm_iinc C (lv' := [(0, .ref (a 0)), (1, .int (x1 + (1 : Int32)))]) (x1 + (1 : Int32)) dX7_restore_34 1 rfl rfl (by decide) rfl [1, 0] rfl rfl ?_
        refine lm_goto C (tgt := 16) dX7_restore_37 (by decide) ?_
        exact ih σ6 (x1 + (1 : Int32)) hF
  show lm_St p l e ({ frames := 2, cells := 0, slots := 0, locals := 43 }) s m_ args below meth c D (va_A (mdW z a σ) s.heap.size) 2 0 0 (lm_End below D (some (.int r)) (mdW z a σ) (mdW z a σ') args s) false (mdW z a σ) 0 [(0, .ref (a 0))] []
  rw [F_X7_restore] at hF
  refine lm_aload_n C dX7_restore_0 rfl 0 rfl rfl ?_
  refine lm_getf C (T := TX7) (N := 14) (v := .int (σ 0 4)) in7_X7_restore 0 rfl rfl 4 (by decide) fl193_X7_restore rfl rfl dX7_restore_1 rfl ?_
  refine lm_if_ne C (tgt := 10) dX7_restore_4 (by decide) rfl (fun c1 => ?_) (fun c1 => ?_)
  · have hF := lm_brt hF c1
    refine lm_aload_n C dX7_restore_10 rfl 0 rfl rfl ?_
    obtain ⟨σ2, qσ2, hF⟩ := lm_bde hF
    refine lm_callV C (n := 0) (ci := 7) (w' := (mdW z a σ2)) hA (m_X7_changes D z zo l a σ  σ2 qσ2) gX7_restore_X7_changes rfl (by decide +kernel) ⟨Nat.le_of_ble_eq_true rfl, Nat.le_of_ble_eq_true rfl⟩ ⟨Nat.le_of_ble_eq_true rfl, Nat.le_of_ble_eq_true rfl⟩ 0 rfl rfl lm_pr lm_pr' rfl rfl (Nat.le_of_ble_eq_true rfl) dX7_restore_11 (st' := []) rfl rfl ?_
    refine lm_iconst C (v := (0 : Int32)) dX7_restore_14 (by decide) rfl ?_
    refine lm_istore_n C (lv' := [(0, .ref (a 0)), (1, .int (0 : Int32))]) dX7_restore_15 rfl (by decide) rfl [1, 0] rfl rfl ?_
    exact loop_16 1000 σ2 (0 : Int32) hF
  · have hF := lm_brf hF c1
    refine lm_bipush C (v := (-2 : Int32)) dX7_restore_7 (by decide) rfl ?_
    cases hF
    exact lm_iret C hr hk rfl rfl dX7_restore_9
