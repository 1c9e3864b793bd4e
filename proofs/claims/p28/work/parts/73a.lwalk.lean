set_option maxRecDepth 100000 in
set_option maxHeartbeats 4000000 in
theorem m_L_many (D : va_G) (z zo : ClassId) (l : Launch) (b : Nat → Nat) (σ : Hp)  (r : Int32)  (hF : F_L_many σ  = some r) : lm_CR D z zo l yL_many wsL_many 0 0 [.ref (b 0)] (lw1W z b σ) (some (.int r)) := by
  refine lm_CR.of (by decide) rfl (Nat.le_of_ble_eq_true rfl) (own := RL) rfl ?_
  intro p e s m_ args below meth c C hr hk
  have loop_2 : ∀ (n : Nat) (σx : Hp) (x1 : Int32), F_L_many_L2 n σx x1 = some r → lm_St p l e ({ frames := 0, cells := 0, slots := 0, locals := 0 }) s m_ args below meth c D (fun _ => False) 2 0 0 (lm_EndR below (some (.int r)) args s) true (lw1W z b σx) 2 [(0, .ref (b 0)), (1, .int x1)] [] := by
    intro n
    induction n with
    | zero => intro σx x1 hF; cases (show (none : Option _) = some _ from hF)
    | succ n ih =>
      intro σx x1 hF
      rw [F_L_many_L2] at hF
      refine lm_iload_n C dL_many_2 rfl 1 rfl rfl ?_
      refine lm_bipush C (v := (10 : Int32)) dL_many_3 (by decide) rfl ?_
      refine lm_icmp_ge C (tgt := 20) dL_many_5 (by decide) rfl (fun c1 => ?_) (fun c1 => ?_)
      · have hF := lm_brt hF c1
        refine lm_iload_n C dL_many_20 rfl 1 rfl rfl ?_
        cases hF
        exact lm_iretR C hr hk rfl dL_many_21
      · have hF := lm_brf hF c1
        refine lm_aload_n C dL_many_8 rfl 0 rfl rfl ?_
        refine lm_iload_n C dL_many_9 rfl 1 rfl rfl ?_
        obtain ⟨b2, hF⟩ := lm_gie hF
        refine lm_iald C (v := (σx 0 x1.toNatClampNeg)) 0 rfl b2 rfl dL_many_10 rfl ?_
        refine lm_if_lt C (tgt := 20) dL_many_11 (by decide) rfl (fun c3 => ?_) (fun c3 => ?_)
        · have hF := lm_brt hF c3
          refine lm_iload_n C dL_many_20 rfl 1 rfl rfl ?_
          cases hF
          exact lm_iretR C hr hk rfl dL_many_21
        · have hF := lm_brf hF c3
          refine lm_iinc C (lv' := [(0, .ref (b 0)), (1, .int (x1 + (1 : Int32)))]) (x1 + (1 : Int32)) dL_many_14 1 rfl rfl (by decide) rfl [1, 0] rfl rfl ?_
          refine lm_goto C (tgt := 2) dL_many_17 (by decide) ?_
          exact ih σx (x1 + (1 : Int32)) hF
  show lm_St p l e ({ frames := 0, cells := 0, slots := 0, locals := 0 }) s m_ args below meth c D (fun _ => False) 2 0 0 (lm_EndR below (some (.int r)) args s) true (lw1W z b σ) 0 [(0, .ref (b 0))] []
  rw [F_L_many] at hF
  refine lm_iconst C (v := (0 : Int32)) dL_many_0 (by decide) rfl ?_
  refine lm_istore_n C (lv' := [(0, .ref (b 0)), (1, .int (0 : Int32))]) dL_many_1 rfl (by decide) rfl [1, 0] rfl rfl ?_
  exact loop_2 1000 σ (0 : Int32) hF
set_option maxRecDepth 100000 in
set_option maxHeartbeats 4000000 in
theorem m_L_out (D : va_G) (z zo : ClassId) (l : Launch) (b : Nat → Nat) (σ : Hp) (x1 : Int32)  (σ' : Hp) (hF : F_L_out σ x1 = some σ') : lm_C D z zo l yL_out wsL_out 0 0 [.ref (b 0), .int x1] (lw1W z b σ) none (lw1W z b σ') := by
  refine lm_C.of (by decide) rfl (Nat.le_of_ble_eq_true rfl) (own := RL) rfl ?_
  intro p e s m_ args below meth c C hr hk hA
  have loop_4 : ∀ (n : Nat) (σx : Hp) (x1 : Int32) (x2 : Int32) (x3 : Int32), F_L_out_L4 n σx x1 x2 x3 = some σ' → lm_St p l e ({ frames := 0, cells := 0, slots := 0, locals := 0 }) s m_ args below meth c D (va_A (lw1W z b σ) s.heap.size) 5 0 0 (lm_End below D none (lw1W z b σ) (lw1W z b σ') args s) false (lw1W z b σx) 4 [(0, .ref (b 0)), (1, .int x1), (2, .int x2), (3, .int x3)] [] := by
    intro n
    induction n with
    | zero => intro σx x1 x2 x3 hF; cases (show (none : Option _) = some _ from hF)
    | succ n ih =>
      intro σx x1 x2 x3 hF
      rw [F_L_out_L4] at hF
      refine lm_iload_n C dL_out_4 rfl 3 rfl rfl ?_
      refine lm_bipush C (v := (10 : Int32)) dL_out_5 (by decide) rfl ?_
      refine lm_icmp_ge C (tgt := 44) dL_out_7 (by decide) rfl (fun c1 => ?_) (fun c1 => ?_)
      · have hF := lm_brt hF c1
        cases hF
        exact lm_vret C hr hk rfl rfl dL_out_44
      · have hF := lm_brf hF c1
        refine lm_aload_n C dL_out_10 rfl 0 rfl rfl ?_
        refine lm_iload_n C dL_out_11 rfl 3 rfl rfl ?_
        obtain ⟨b2, hF⟩ := lm_gie hF
        refine lm_iald C (v := (σx 0 x3.toNatClampNeg)) 0 rfl b2 rfl dL_out_12 rfl ?_
        refine lm_istore C (lv' := [(0, .ref (b 0)), (1, .int x1), (2, .int x2), (3, .int x3), (4, .int (σx 0 x3.toNatClampNeg))]) dL_out_13 (by decide) rfl [1, 2, 3, 4, 0] rfl rfl ?_
        refine lm_aload_n C dL_out_15 rfl 0 rfl rfl ?_
        refine lm_iload_n C dL_out_16 rfl 3 rfl rfl ?_
        refine lm_iconst C (v := (-1 : Int32)) dL_out_17 (by decide) rfl ?_
        obtain ⟨b8, hF⟩ := lm_gie hF
        obtain ⟨σ3, eσ3, hF⟩ := lm_lte hF
        refine lm_iast C (w' := (lw1W z b σ3)) 0 rfl b8 dL_out_18 (by rw [← eσ3]; rfl) rfl ?_
        refine lm_iload C dL_out_19 4 rfl rfl ?_
        refine lm_if_lt C (tgt := 38) dL_out_21 (by decide) rfl (fun c4 => ?_) (fun c4 => ?_)
        · have hF := lm_brt hF c4
          refine lm_iinc C (lv' := [(0, .ref (b 0)), (1, .int x1), (2, .int x2), (3, .int (x3 + (1 : Int32))), (4, .int (σx 0 x3.toNatClampNeg))]) (x3 + (1 : Int32)) dL_out_38 3 rfl rfl (by decide) rfl [1, 2, 3, 0, 4] rfl rfl ?_
          refine lm_goto C (tgt := 4) dL_out_41 (by decide) ?_
          refine lm_lvsub (lv' := [(0, .ref (b 0)), (1, .int x1), (2, .int x2), (3, .int (x3 + (1 : Int32)))]) [0, 1, 2, 3] rfl ?_
          exact ih σ3 x1 x2 (x3 + (1 : Int32)) hF
        · have hF := lm_brf hF c4
          refine lm_iload C dL_out_24 4 rfl rfl ?_
          refine lm_iload_n C dL_out_26 rfl 1 rfl rfl ?_
          refine lm_icmp_eq C (tgt := 38) dL_out_27 (by decide) rfl (fun c5 => ?_) (fun c5 => ?_)
          · have hF := lm_brt hF c5
            refine lm_iinc C (lv' := [(0, .ref (b 0)), (1, .int x1), (2, .int x2), (3, .int (x3 + (1 : Int32))), (4, .int (σx 0 x3.toNatClampNeg))]) (x3 + (1 : Int32)) dL_out_38 3 rfl rfl (by decide) rfl [1, 2, 3, 0, 4] rfl rfl ?_
            refine lm_goto C (tgt := 4) dL_out_41 (by decide) ?_
            refine lm_lvsub (lv' := [(0, .ref (b 0)), (1, .int x1), (2, .int x2), (3, .int (x3 + (1 : Int32)))]) [0, 1, 2, 3] rfl ?_
            exact ih σ3 x1 x2 (x3 + (1 : Int32)) hF
          · have hF := lm_brf hF c5
            refine lm_aload_n C dL_out_30 rfl 0 rfl rfl ?_
            refine lm_iload_n C dL_out_31 rfl 2 rfl rfl ?_
            refine lm_iload C dL_out_32 4 rfl rfl ?_
            obtain ⟨b7, hF⟩ := lm_gie hF
            obtain ⟨σ6, eσ6, hF⟩ := lm_lte hF
            refine lm_iast C (w' := (lw1W z b σ6)) 0 rfl b7 dL_out_34 (by rw [← eσ6]; rfl) rfl ?_
            refine lm_iinc C (lv' := [(0, .ref (b 0)), (1, .int x1), (2, .int (x2 + (1 : Int32))), (3, .int x3), (4, .int (σx 0 x3.toNatClampNeg))]) (x2 + (1 : Int32)) dL_out_35 2 rfl rfl (by decide) rfl [1, 2, 0, 3, 4] rfl rfl ?_
            refine lm_iinc C (lv' := [(0, .ref (b 0)), (1, .int x1), (2, .int (x2 + (1 : Int32))), (3, .int (x3 + (1 : Int32))), (4, .int (σx 0 x3.toNatClampNeg))]) (x3 + (1 : Int32)) dL_out_38 3 rfl rfl (by decide) rfl [1, 2, 3, 0, 4] rfl rfl ?_
            refine lm_goto C (tgt := 4) dL_out_41 (by decide) ?_
            refine lm_lvsub (lv' := [(0, .ref (b 0)), (1, .int x1), (2, .int (x2 + (1 : Int32))), (3, .int (x3 + (1 : Int32)))]) [0, 1, 2, 3] rfl ?_
            exact ih σ6 x1 (x2 + (1 : Int32)) (x3 + (1 : Int32)) hF
  show lm_St p l e ({ frames := 0, cells := 0, slots := 0, locals := 0 }) s m_ args below meth c D (va_A (lw1W z b σ) s.heap.size) 5 0 0 (lm_End below D none (lw1W z b σ) (lw1W z b σ') args s) false (lw1W z b σ) 0 [(0, .ref (b 0)), (1, .int x1)] []
  rw [F_L_out] at hF
  refine lm_iconst C (v := (0 : Int32)) dL_out_0 (by decide) rfl ?_
  refine lm_istore_n C (lv' := [(0, .ref (b 0)), (1, .int x1), (2, .int (0 : Int32))]) dL_out_1 rfl (by decide) rfl [1, 2, 0] rfl rfl ?_
  refine lm_iconst C (v := (0 : Int32)) dL_out_2 (by decide) rfl ?_
  refine lm_istore_n C (lv' := [(0, .ref (b 0)), (1, .int x1), (2, .int (0 : Int32)), (3, .int (0 : Int32))]) dL_out_3 rfl (by decide) rfl [1, 2, 3, 0] rfl rfl ?_
  exact loop_4 1000 σ x1 (0 : Int32) (0 : Int32) hF
set_option maxRecDepth 100000 in
set_option maxHeartbeats 4000000 in
theorem m_L_has (D : va_G) (z zo : ClassId) (l : Launch) (b : Nat → Nat) (σ : Hp) (x1 : Int32) (r : Int32)  (hF : F_L_has σ x1 = some r) : lm_CR D z zo l yL_has wsL_has 0 0 [.ref (b 0), .int x1] (lw1W z b σ) (some (.int r)) := by
  refine lm_CR.of (by decide) rfl (Nat.le_of_ble_eq_true rfl) (own := RL) rfl ?_
  intro p e s m_ args below meth c C hr hk
  have loop_4 : ∀ (n : Nat) (σx : Hp) (x1 : Int32) (x2 : Int32) (x3 : Int32), F_L_has_L4 n σx x1 x2 x3 = some r → lm_St p l e ({ frames := 0, cells := 0, slots := 0, locals := 0 }) s m_ args below meth c D (fun _ => False) 4 0 0 (lm_EndR below (some (.int r)) args s) true (lw1W z b σx) 4 [(0, .ref (b 0)), (1, .int x1), (2, .int x2), (3, .int x3)] [] := by
    intro n
    induction n with
    | zero => intro σx x1 x2 x3 hF; cases (show (none : Option _) = some _ from hF)
    | succ n ih =>
      intro σx x1 x2 x3 hF
      rw [F_L_has_L4] at hF
      refine lm_iload_n C dL_has_4 rfl 3 rfl rfl ?_
      refine lm_bipush C (v := (10 : Int32)) dL_has_5 (by decide) rfl ?_
      refine lm_icmp_ge C (tgt := 33) dL_has_7 (by decide) rfl (fun c1 => ?_) (fun c1 => ?_)
      · have hF := lm_brt hF c1
        refine lm_iload_n C dL_has_33 rfl 2 rfl rfl ?_
        obtain ⟨c2, hF⟩ := lm_gde hF
        cases hF
        exact lm_zretR C hr hk (lm_boolok c2) rfl dL_has_34
      · have hF := lm_brf hF c1
        refine lm_iload_n C dL_has_10 rfl 2 rfl rfl ?_
        refine lm_if_ne C (tgt := 21) dL_has_11 (by decide) rfl (fun c3 => ?_) (fun c3 => ?_)
        · have hF := lm_brt hF c3
          refine lm_iconst C (v := (1 : Int32)) dL_has_21 (by decide) rfl ?_
          refine lm_goto C (tgt := 26) dL_has_22 (by decide) ?_
          refine lm_istore_n C (lv' := [(0, .ref (b 0)), (1, .int x1), (2, .int (1 : Int32)), (3, .int x3)]) dL_has_26 rfl (by decide) rfl [1, 2, 0, 3] rfl rfl ?_
          refine lm_iinc C (lv' := [(0, .ref (b 0)), (1, .int x1), (2, .int (1 : Int32)), (3, .int (x3 + (1 : Int32)))]) (x3 + (1 : Int32)) dL_has_27 3 rfl rfl (by decide) rfl [1, 2, 3, 0] rfl rfl ?_
          refine lm_goto C (tgt := 4) dL_has_30 (by decide) ?_
          exact ih σx x1 (1 : Int32) (x3 + (1 : Int32)) hF
        · have hF := lm_brf hF c3
          refine lm_aload_n C dL_has_14 rfl 0 rfl rfl ?_
          refine lm_iload_n C dL_has_15 rfl 3 rfl rfl ?_
          obtain ⟨b4, hF⟩ := lm_gie hF
          refine lm_iald C (v := (σx 0 x3.toNatClampNeg)) 0 rfl b4 rfl dL_has_16 rfl ?_
          refine lm_iload_n C dL_has_17 rfl 1 rfl rfl ?_
          refine lm_icmp_ne C (tgt := 25) dL_has_18 (by decide) rfl (fun c5 => ?_) (fun c5 => ?_)
          · have hF := lm_brt hF c5
            refine lm_iconst C (v := (0 : Int32)) dL_has_25 (by decide) rfl ?_
            refine lm_istore_n C (lv' := [(0, .ref (b 0)), (1, .int x1), (2, .int (0 : Int32)), (3, .int x3)]) dL_has_26 rfl (by decide) rfl [1, 2, 0, 3] rfl rfl ?_
            refine lm_iinc C (lv' := [(0, .ref (b 0)), (1, .int x1), (2, .int (0 : Int32)), (3, .int (x3 + (1 : Int32)))]) (x3 + (1 : Int32)) dL_has_27 3 rfl rfl (by decide) rfl [1, 2, 3, 0] rfl rfl ?_
            refine lm_goto C (tgt := 4) dL_has_30 (by decide) ?_
            exact ih σx x1 (0 : Int32) (x3 + (1 : Int32)) hF
          · have hF := lm_brf hF c5
            refine lm_iconst C (v := (1 : Int32)) dL_has_21 (by decide) rfl ?_
            refine lm_goto C (tgt := 26) dL_has_22 (by decide) ?_
            refine lm_istore_n C (lv' := [(0, .ref (b 0)), (1, .int x1), (2, .int (1 : Int32)), (3, .int x3)]) dL_has_26 rfl (by decide) rfl [1, 2, 0, 3] rfl rfl ?_
            refine lm_iinc C (lv' := [(0, .ref (b 0)), (1, .int x1), (2, .int (1 : Int32)), (3, .int (x3 + (1 : Int32)))]) (x3 + (1 : Int32)) dL_has_27 3 rfl rfl (by decide) rfl [1, 2, 3, 0] rfl rfl ?_
            refine lm_goto C (tgt := 4) dL_has_30 (by decide) ?_
            exact ih σx x1 (1 : Int32) (x3 + (1 : Int32)) hF
  show lm_St p l e ({ frames := 0, cells := 0, slots := 0, locals := 0 }) s m_ args below meth c D (fun _ => False) 4 0 0 (lm_EndR below (some (.int r)) args s) true (lw1W z b σ) 0 [(0, .ref (b 0)), (1, .int x1)] []
  rw [F_L_has] at hF
  refine lm_iconst C (v := (0 : Int32)) dL_has_0 (by decide) rfl ?_
  refine lm_istore_n C (lv' := [(0, .ref (b 0)), (1, .int x1), (2, .int (0 : Int32))]) dL_has_1 rfl (by decide) rfl [1, 2, 0] rfl rfl ?_
  refine lm_iconst C (v := (0 : Int32)) dL_has_2 (by decide) rfl ?_
  refine lm_istore_n C (lv' := [(0, .ref (b 0)), (1, .int x1), (2, .int (0 : Int32)), (3, .int (0 : Int32))]) dL_has_3 rfl (by decide) rfl [1, 2, 3, 0] rfl rfl ?_
  exact loop_4 1000 σ x1 (0 : Int32) (0 : Int32) hF
set_option maxRecDepth 100000 in
set_option maxHeartbeats 4000000 in
theorem m_L_weight (D : va_G) (z zo : ClassId) (l : Launch) (b : Nat → Nat) (σ : Hp) (x2 x3 : Int32) (r : Int32)  (hF : F_L_weight σ x2 x3 = some r) : lm_CR D z zo l yL_weight wsL_weight 0 0 [.ref (b 0), .ref (b 1), .int x2, .int x3] (lw6W z b σ) (some (.int r)) := by
  refine lm_CR.of (by decide) rfl (Nat.le_of_ble_eq_true rfl) (own := RL) rfl ?_
  intro p e s m_ args below meth c C hr hk
  have loop_14 : ∀ (n : Nat) (σx : Hp) (x2 : Int32) (x3 : Int32) (x4 : Int32) (x5 : Int32), F_L_weight_L14 n σx x2 x3 x4 x5 = some r → lm_St p l e ({ frames := 0, cells := 0, slots := 0, locals := 0 }) s m_ args below meth c D (fun _ => False) 7 0 0 (lm_EndR below (some (.int r)) args s) true (lw6W z b σx) 14 [(0, .ref (b 0)), (1, .ref (b 1)), (2, .int x2), (3, .int x3), (4, .int x4), (5, .int x5)] [] := by
    intro n
    induction n with
    | zero => intro σx x2 x3 x4 x5 hF; cases (show (none : Option _) = some _ from hF)
    | succ n ih =>
      intro σx x2 x3 x4 x5 hF
      rw [F_L_weight_L14] at hF
      refine lm_iload C dL_weight_14 5 rfl rfl ?_
      refine lm_aload_n C dL_weight_16 rfl 0 rfl rfl ?_
      refine lm_iconst C (v := (5 : Int32)) dL_weight_17 (by decide) rfl ?_
      refine lm_iald C (v := (σx 0 5)) 0 rfl (by unfold vp_in; decide) rfl dL_weight_18 rfl ?_
      refine lm_icmp_ge C (tgt := 83) dL_weight_19 (by decide) rfl (fun c2 => ?_) (fun c2 => ?_)
      · have hF := lm_brt hF c2
        refine lm_iload C dL_weight_83 4 rfl rfl ?_
        cases hF
        exact lm_iretR C hr hk rfl dL_weight_85
      · have hF := lm_brf hF c2
        refine lm_aload_n C dL_weight_22 rfl 1 rfl rfl ?_
        refine lm_iconst C (v := (2 : Int32)) dL_weight_23 (by decide) rfl ?_
        refine lm_iload C dL_weight_24 5 rfl rfl ?_
        refine lm_imul C dL_weight_26 rfl rfl ?_
        refine lm_iconst C (v := (1 : Int32)) dL_weight_27 (by decide) rfl ?_
        refine lm_iadd C dL_weight_28 rfl rfl ?_
        obtain ⟨b3, hF⟩ := lm_gie hF
        refine lm_iald C (v := (σx 1 ((((2 : Int32) * x5) + (1 : Int32))).toNatClampNeg)) 1 rfl b3 rfl dL_weight_29 rfl ?_
        obtain ⟨t4, et4, hF⟩ := lm_lte hF
        rw [et4]
        refine lm_istore C (lv' := [(0, .ref (b 0)), (1, .ref (b 1)), (2, .int x2), (3, .int x3), (4, .int x4), (5, .int x5), (6, .int t4)]) dL_weight_30 (by decide) rfl [1, 2, 3, 4, 5, 6, 0] rfl rfl ?_
        refine lm_iload C dL_weight_32 4 rfl rfl ?_
        refine lm_aload_n C dL_weight_34 rfl 1 rfl rfl ?_
        refine lm_iconst C (v := (2 : Int32)) dL_weight_35 (by decide) rfl ?_
        refine lm_iload C dL_weight_36 5 rfl rfl ?_
        refine lm_imul C dL_weight_38 rfl rfl ?_
        obtain ⟨b5, hF⟩ := lm_gie hF
        refine lm_iald C (v := (σx 1 (((2 : Int32) * x5)).toNatClampNeg)) 1 rfl b5 rfl dL_weight_39 rfl ?_
        refine lm_iload_n C dL_weight_40 rfl 2 rfl rfl ?_
        refine lm_icmp_ne C (tgt := 73) dL_weight_41 (by decide) rfl (fun c6 => ?_) (fun c6 => ?_)
        · have hF := lm_brt hF c6
          refine lm_iconst C (v := (0 : Int32)) dL_weight_73 (by decide) rfl ?_
          refine lm_iadd C dL_weight_74 rfl rfl ?_
          refine lm_istore C (lv' := [(0, .ref (b 0)), (1, .ref (b 1)), (2, .int x2), (3, .int x3), (4, .int (x4 + (0 : Int32))), (5, .int x5), (6, .int t4)]) dL_weight_75 (by decide) rfl [1, 2, 3, 4, 0, 5, 6] rfl rfl ?_
          refine lm_iinc C (lv' := [(0, .ref (b 0)), (1, .ref (b 1)), (2, .int x2), (3, .int x3), (4, .int (x4 + (0 : Int32))), (5, .int (x5 + (1 : Int32))), (6, .int t4)]) (x5 + (1 : Int32)) dL_weight_77 5 rfl rfl (by decide) rfl [1, 2, 3, 4, 5, 0, 6] rfl rfl ?_
          refine lm_goto C (tgt := 14) dL_weight_80 (by decide) ?_
          refine lm_lvsub (lv' := [(0, .ref (b 0)), (1, .ref (b 1)), (2, .int x2), (3, .int x3), (4, .int (x4 + (0 : Int32))), (5, .int (x5 + (1 : Int32)))]) [0, 1, 2, 3, 4, 5] rfl ?_
          exact ih σx x2 x3 (x4 + (0 : Int32)) (x5 + (1 : Int32)) hF
        · have hF := lm_brf hF c6
          refine lm_iload C dL_weight_44 6 rfl rfl ?_
          refine lm_aload_n C dL_weight_46 rfl 0 rfl rfl ?_
          refine lm_iconst C (v := (3 : Int32)) dL_weight_47 (by decide) rfl ?_
          refine lm_iald C (v := (σx 0 3)) 0 rfl (by unfold vp_in; decide) rfl dL_weight_48 rfl ?_
          refine lm_icmp_lt C (tgt := 73) dL_weight_49 (by decide) rfl (fun c7 => ?_) (fun c7 => ?_)
          · have hF := lm_brt hF c7
            refine lm_iconst C (v := (0 : Int32)) dL_weight_73 (by decide) rfl ?_
            refine lm_iadd C dL_weight_74 rfl rfl ?_
            refine lm_istore C (lv' := [(0, .ref (b 0)), (1, .ref (b 1)), (2, .int x2), (3, .int x3), (4, .int (x4 + (0 : Int32))), (5, .int x5), (6, .int t4)]) dL_weight_75 (by decide) rfl [1, 2, 3, 4, 0, 5, 6] rfl rfl ?_
            refine lm_iinc C (lv' := [(0, .ref (b 0)), (1, .ref (b 1)), (2, .int x2), (3, .int x3), (4, .int (x4 + (0 : Int32))), (5, .int (x5 + (1 : Int32))), (6, .int t4)]) (x5 + (1 : Int32)) dL_weight_77 5 rfl rfl (by decide) rfl [1, 2, 3, 4, 5, 0, 6] rfl rfl ?_
            refine lm_goto C (tgt := 14) dL_weight_80 (by decide) ?_
            refine lm_lvsub (lv' := [(0, .ref (b 0)), (1, .ref (b 1)), (2, .int x2), (3, .int x3), (4, .int (x4 + (0 : Int32))), (5, .int (x5 + (1 : Int32)))]) [0, 1, 2, 3, 4, 5] rfl ?_
            exact ih σx x2 x3 (x4 + (0 : Int32)) (x5 + (1 : Int32)) hF
          · have hF := lm_brf hF c7
            refine lm_iload C dL_weight_52 6 rfl rfl ?_
            refine lm_aload_n C dL_weight_54 rfl 0 rfl rfl ?_
            refine lm_iconst C (v := (4 : Int32)) dL_weight_55 (by decide) rfl ?_
            refine lm_iald C (v := (σx 0 4)) 0 rfl (by unfold vp_in; decide) rfl dL_weight_56 rfl ?_
            refine lm_icmp_gt C (tgt := 73) dL_weight_57 (by decide) rfl (fun c8 => ?_) (fun c8 => ?_)
            · have hF := lm_brt hF c8
              refine lm_iconst C (v := (0 : Int32)) dL_weight_73 (by decide) rfl ?_
              refine lm_iadd C dL_weight_74 rfl rfl ?_
              refine lm_istore C (lv' := [(0, .ref (b 0)), (1, .ref (b 1)), (2, .int x2), (3, .int x3), (4, .int (x4 + (0 : Int32))), (5, .int x5), (6, .int t4)]) dL_weight_75 (by decide) rfl [1, 2, 3, 4, 0, 5, 6] rfl rfl ?_
              refine lm_iinc C (lv' := [(0, .ref (b 0)), (1, .ref (b 1)), (2, .int x2), (3, .int x3), (4, .int (x4 + (0 : Int32))), (5, .int (x5 + (1 : Int32))), (6, .int t4)]) (x5 + (1 : Int32)) dL_weight_77 5 rfl rfl (by decide) rfl [1, 2, 3, 4, 5, 0, 6] rfl rfl ?_
              refine lm_goto C (tgt := 14) dL_weight_80 (by decide) ?_
              refine lm_lvsub (lv' := [(0, .ref (b 0)), (1, .ref (b 1)), (2, .int x2), (3, .int x3), (4, .int (x4 + (0 : Int32))), (5, .int (x5 + (1 : Int32)))]) [0, 1, 2, 3, 4, 5] rfl ?_
              exact ih σx x2 x3 (x4 + (0 : Int32)) (x5 + (1 : Int32)) hF
            · have hF := lm_brf hF c8
              refine lm_iload_n C dL_weight_60 rfl 3 rfl rfl ?_
              refine lm_if_eq C (tgt := 69) dL_weight_61 (by decide) rfl (fun c9 => ?_) (fun c9 => ?_)
              · have hF := lm_brt hF c9
                refine lm_iconst C (v := (1 : Int32)) dL_weight_69 (by decide) rfl ?_
                refine lm_goto C (tgt := 74) dL_weight_70 (by decide) ?_
                refine lm_iadd C dL_weight_74 rfl rfl ?_
                refine lm_istore C (lv' := [(0, .ref (b 0)), (1, .ref (b 1)), (2, .int x2), (3, .int x3), (4, .int (x4 + (1 : Int32))), (5, .int x5), (6, .int t4)]) dL_weight_75 (by decide) rfl [1, 2, 3, 4, 0, 5, 6] rfl rfl ?_
                refine lm_iinc C (lv' := [(0, .ref (b 0)), (1, .ref (b 1)), (2, .int x2), (3, .int x3), (4, .int (x4 + (1 : Int32))), (5, .int (x5 + (1 : Int32))), (6, .int t4)]) (x5 + (1 : Int32)) dL_weight_77 5 rfl rfl (by decide) rfl [1, 2, 3, 4, 5, 0, 6] rfl rfl ?_
                refine lm_goto C (tgt := 14) dL_weight_80 (by decide) ?_
                refine lm_lvsub (lv' := [(0, .ref (b 0)), (1, .ref (b 1)), (2, .int x2), (3, .int x3), (4, .int (x4 + (1 : Int32))), (5, .int (x5 + (1 : Int32)))]) [0, 1, 2, 3, 4, 5] rfl ?_
                exact ih σx x2 x3 (x4 + (1 : Int32)) (x5 + (1 : Int32)) hF
              · have hF := lm_brf hF c9
                refine lm_iload C dL_weight_64 6 rfl rfl ?_
                refine lm_goto C (tgt := 74) dL_weight_66 (by decide) ?_
                refine lm_iadd C dL_weight_74 rfl rfl ?_
                refine lm_istore C (lv' := [(0, .ref (b 0)), (1, .ref (b 1)), (2, .int x2), (3, .int x3), (4, .int (x4 + t4)), (5, .int x5), (6, .int t4)]) dL_weight_75 (by decide) rfl [1, 2, 3, 4, 0, 5, 6] rfl rfl ?_
                refine lm_iinc C (lv' := [(0, .ref (b 0)), (1, .ref (b 1)), (2, .int x2), (3, .int x3), (4, .int (x4 + t4)), (5, .int (x5 + (1 : Int32))), (6, .int t4)]) (x5 + (1 : Int32)) dL_weight_77 5 rfl rfl (by decide) rfl [1, 2, 3, 4, 5, 0, 6] rfl rfl ?_
                refine lm_goto C (tgt := 14) dL_weight_80 (by decide) ?_
                refine lm_lvsub (lv' := [(0, .ref (b 0)), (1, .ref (b 1)), (2, .int x2), (3, .int x3), (4, .int (x4 + t4)), (5, .int (x5 + (1 : Int32)))]) [0, 1, 2, 3, 4, 5] rfl ?_
                exact ih σx x2 x3 (x4 + t4) (x5 + (1 : Int32)) hF
  show lm_St p l e ({ frames := 0, cells := 0, slots := 0, locals := 0 }) s m_ args below meth c D (fun _ => False) 7 0 0 (lm_EndR below (some (.int r)) args s) true (lw6W z b σ) 0 [(0, .ref (b 0)), (1, .ref (b 1)), (2, .int x2), (3, .int x3)] []
  rw [F_L_weight] at hF
  refine lm_iload_n C dL_weight_0 rfl 3 rfl rfl ?_
  refine lm_if_eq C (tgt := 8) dL_weight_1 (by decide) rfl (fun c1 => ?_) (fun c1 => ?_)
  · have hF := lm_brt hF c1
    refine lm_iconst C (v := (2 : Int32)) dL_weight_8 (by decide) rfl ?_
    refine lm_istore C (lv' := [(0, .ref (b 0)), (1, .ref (b 1)), (2, .int x2), (3, .int x3), (4, .int (2 : Int32))]) dL_weight_9 (by decide) rfl [1, 2, 3, 4, 0] rfl rfl ?_
    refine lm_iconst C (v := (0 : Int32)) dL_weight_11 (by decide) rfl ?_
    refine lm_istore C (lv' := [(0, .ref (b 0)), (1, .ref (b 1)), (2, .int x2), (3, .int x3), (4, .int (2 : Int32)), (5, .int (0 : Int32))]) dL_weight_12 (by decide) rfl [1, 2, 3, 4, 5, 0] rfl rfl ?_
    exact loop_14 1000 σ x2 x3 (2 : Int32) (0 : Int32) hF
  · have hF := lm_brf hF c1
    refine lm_iconst C (v := (0 : Int32)) dL_weight_4 (by decide) rfl ?_
    refine lm_goto C (tgt := 9) dL_weight_5 (by decide) ?_
    refine lm_istore C (lv' := [(0, .ref (b 0)), (1, .ref (b 1)), (2, .int x2), (3, .int x3), (4, .int (0 : Int32))]) dL_weight_9 (by decide) rfl [1, 2, 3, 4, 0] rfl rfl ?_
    refine lm_iconst C (v := (0 : Int32)) dL_weight_11 (by decide) rfl ?_
    refine lm_istore C (lv' := [(0, .ref (b 0)), (1, .ref (b 1)), (2, .int x2), (3, .int x3), (4, .int (0 : Int32)), (5, .int (0 : Int32))]) dL_weight_12 (by decide) rfl [1, 2, 3, 4, 5, 0] rfl rfl ?_
    exact loop_14 1000 σ x2 x3 (0 : Int32) (0 : Int32) hF
set_option maxRecDepth 100000 in
set_option maxHeartbeats 4000000 in
theorem m_L_weights (D : va_G) (z zo : ClassId) (l : Launch) (b : Nat → Nat) (σ : Hp)  (r : Int32)  (hF : F_L_weights σ  = some r) : lm_CR D z zo l yL_weights wsL_weights 1 26 [.ref (b 0), .ref (b 1), .ref (b 3)] (lw6W z b σ) (some (.int r)) := by
  refine lm_CR.of (by decide) rfl (Nat.le_of_ble_eq_true rfl) (own := RL) rfl ?_
  intro p e s m_ args below meth c C hr hk
  have loop_5 : ∀ (n : Nat) (σx : Hp) (x3 : Int32) (x4 : Int32), F_L_weights_L5 n σx x3 x4 = some r → lm_St p l e ({ frames := 1, cells := 0, slots := 0, locals := 26 }) s m_ args below meth c D (fun _ => False) 5 0 0 (lm_EndR below (some (.int r)) args s) true (lw6W z b σx) 5 [(0, .ref (b 0)), (1, .ref (b 1)), (2, .ref (b 3)), (3, .int x3), (4, .int x4)] [] := by
    intro n
    induction n with
    | zero => intro σx x3 x4 hF; cases (show (none : Option _) = some _ from hF)
    | succ n ih =>
      intro σx x3 x4 hF
      rw [F_L_weights_L5] at hF
      refine lm_iload C dL_weights_5 4 rfl rfl ?_
      refine lm_aload_n C dL_weights_7 rfl 2 rfl rfl ?_
      obtain ⟨r1, qr1, hF⟩ := lm_bde hF
      refine lm_callSR C (n := 1) (m_L_many D z zo l (lw_f1 (b 3)) (lw_f1 (σx 3)) r1 qr1) gL_weights_L_many rfl (by decide +kernel) ⟨Nat.le_of_ble_eq_true rfl, Nat.le_of_ble_eq_true rfl⟩ ⟨Nat.le_of_ble_eq_true rfl, Nat.le_of_ble_eq_true rfl⟩ (lw_hsub [3] rfl) rfl rfl (Nat.le_of_ble_eq_true rfl) dL_weights_8 (st' := [.int r1, .int x4]) rfl rfl ?_
      refine lm_icmp_ge C (tgt := 33) dL_weights_11 (by decide) rfl (fun c2 => ?_) (fun c2 => ?_)
      · have hF := lm_brt hF c2
        refine lm_iload_n C dL_weights_33 rfl 3 rfl rfl ?_
        cases hF
        exact lm_iretR C hr hk rfl dL_weights_34
      · have hF := lm_brf hF c2
        refine lm_iload_n C dL_weights_14 rfl 3 rfl rfl ?_
        refine lm_aload_n C dL_weights_15 rfl 0 rfl rfl ?_
        refine lm_aload_n C dL_weights_16 rfl 1 rfl rfl ?_
        refine lm_aload_n C dL_weights_17 rfl 2 rfl rfl ?_
        refine lm_iload C dL_weights_18 4 rfl rfl ?_
        obtain ⟨b3, hF⟩ := lm_gie hF
        refine lm_iald C (v := (σx 3 x4.toNatClampNeg)) 3 rfl b3 rfl dL_weights_20 rfl ?_
        refine lm_iconst C (v := (0 : Int32)) dL_weights_21 (by decide) rfl ?_
        obtain ⟨r4, qr4, hF⟩ := lm_bde hF
        refine lm_callSR C (n := 4) (m_L_weight D z zo l b σx (σx 3 x4.toNatClampNeg) (0 : Int32) r4 qr4) gL_weights_L_weight rfl (by decide +kernel) ⟨Nat.le_of_ble_eq_true rfl, Nat.le_of_ble_eq_true rfl⟩ ⟨Nat.le_of_ble_eq_true rfl, Nat.le_of_ble_eq_true rfl⟩ (fun _ h => h) rfl rfl (Nat.le_of_ble_eq_true rfl) dL_weights_22 (st' := [.int r4, .int x3]) rfl rfl ?_
        refine lm_iadd C dL_weights_25 rfl rfl ?_
        refine lm_istore_n C (lv' := [(0, .ref (b 0)), (1, .ref (b 1)), (2, .ref (b 3)), (3, .int (x3 + r4)), (4, .int x4)]) dL_weights_26 rfl (by decide) rfl [1, 2, 3, 0, 4] rfl rfl ?_
        refine lm_iinc C (lv' := [(0, .ref (b 0)), (1, .ref (b 1)), (2, .ref (b 3)), (3, .int (x3 + r4)), (4, .int (x4 + (1 : Int32)))]) (x4 + (1 : Int32)) dL_weights_27 4 rfl rfl (by decide) rfl [1, 2, 3, 4, 0] rfl rfl ?_
        refine lm_goto C (tgt := 5) dL_weights_30 (by decide) ?_
        exact ih σx (x3 + r4) (x4 + (1 : Int32)) hF
  show lm_St p l e ({ frames := 1, cells := 0, slots := 0, locals := 26 }) s m_ args below meth c D (fun _ => False) 5 0 0 (lm_EndR below (some (.int r)) args s) true (lw6W z b σ) 0 [(0, .ref (b 0)), (1, .ref (b 1)), (2, .ref (b 3))] []
  rw [F_L_weights] at hF
  refine lm_iconst C (v := (0 : Int32)) dL_weights_0 (by decide) rfl ?_
  refine lm_istore_n C (lv' := [(0, .ref (b 0)), (1, .ref (b 1)), (2, .ref (b 3)), (3, .int (0 : Int32))]) dL_weights_1 rfl (by decide) rfl [1, 2, 3, 0] rfl rfl ?_
  refine lm_iconst C (v := (0 : Int32)) dL_weights_2 (by decide) rfl ?_
  refine lm_istore C (lv' := [(0, .ref (b 0)), (1, .ref (b 1)), (2, .ref (b 3)), (3, .int (0 : Int32)), (4, .int (0 : Int32))]) dL_weights_3 (by decide) rfl [1, 2, 3, 4, 0] rfl rfl ?_
  exact loop_5 1000 σ (0 : Int32) (0 : Int32) hF
set_option maxRecDepth 100000 in
set_option maxHeartbeats 4000000 in
theorem m_L_first (D : va_G) (z zo : ClassId) (l : Launch) (b : Nat → Nat) (σ : Hp) (x4 : Int32) (r : Int32)  (hF : F_L_first σ x4 = some r) : lm_CR D z zo l yL_first wsL_first 1 21 [.ref (b 0), .ref (b 1), .ref (b 2), .ref (b 3), .int x4] (lw4W z b σ) (some (.int r)) := by
  refine lm_CR.of (by decide) rfl (Nat.le_of_ble_eq_true rfl) (own := RL) rfl ?_
  intro p e s m_ args below meth c C hr hk
  have loop_6 : ∀ (n : Nat) (σx : Hp) (x4 : Int32) (x5 : Int32) (x6 : Int32), F_L_first_L6 n σx x4 x5 x6 = some r → lm_St p l e ({ frames := 1, cells := 0, slots := 0, locals := 21 }) s m_ args below meth c D (fun _ => False) 9 0 0 (lm_EndR below (some (.int r)) args s) true (lw4W z b σx) 6 [(0, .ref (b 0)), (1, .ref (b 1)), (2, .ref (b 2)), (3, .ref (b 3)), (4, .int x4), (5, .int x5), (6, .int x6)] [] := by
    intro n
    induction n with
    | zero => intro σx x4 x5 x6 hF; cases (show (none : Option _) = some _ from hF)
    | succ n ih =>
      intro σx x4 x5 x6 hF
      rw [F_L_first_L6] at hF
      refine lm_iload C dL_first_6 6 rfl rfl ?_
      refine lm_aload_n C dL_first_8 rfl 1 rfl rfl ?_
      obtain ⟨r1, qr1, hF⟩ := lm_bde hF
      refine lm_callSR C (n := 1) (m_L_many D z zo l (lw_f1 (b 1)) (lw_f1 (σx 1)) r1 qr1) gL_first_L_many rfl (by decide +kernel) ⟨Nat.le_of_ble_eq_true rfl, Nat.le_of_ble_eq_true rfl⟩ ⟨Nat.le_of_ble_eq_true rfl, Nat.le_of_ble_eq_true rfl⟩ (lw_hsub [1] rfl) rfl rfl (Nat.le_of_ble_eq_true rfl) dL_first_9 (st' := [.int r1, .int x6]) rfl rfl ?_
      refine lm_icmp_ge C (tgt := 92) dL_first_12 (by decide) rfl (fun c2 => ?_) (fun c2 => ?_)
      · have hF := lm_brt hF c2
        refine lm_iload C dL_first_92 5 rfl rfl ?_
        cases hF
        exact lm_iretR C hr hk rfl dL_first_94
      · have hF := lm_brf hF c2
        refine lm_aload_n C dL_first_15 rfl 0 rfl rfl ?_
        refine lm_iconst C (v := (1 : Int32)) dL_first_16 (by decide) rfl ?_
        refine lm_iald C (v := (σx 0 1)) 0 rfl (by unfold vp_in; decide) rfl dL_first_17 rfl ?_
        refine lm_iconst C (v := (2 : Int32)) dL_first_18 (by decide) rfl ?_
        refine lm_icmp_ne C (tgt := 29) dL_first_19 (by decide) rfl (fun c3 => ?_) (fun c3 => ?_)
        · have hF := lm_brt hF c3
          refine lm_aload_n C dL_first_29 rfl 2 rfl rfl ?_
          refine lm_iload C dL_first_30 6 rfl rfl ?_
          obtain ⟨b4, hF⟩ := lm_gie hF
          refine lm_iald C (v := (σx 2 x6.toNatClampNeg)) 2 rfl b4 rfl dL_first_32 rfl ?_
          refine lm_istore C (lv' := [(0, .ref (b 0)), (1, .ref (b 1)), (2, .ref (b 2)), (3, .ref (b 3)), (4, .int x4), (5, .int x5), (6, .int x6), (7, .int (σx 2 x6.toNatClampNeg))]) dL_first_33 (by decide) rfl [1, 2, 3, 4, 5, 6, 7, 0] rfl rfl ?_
          refine lm_iload C dL_first_35 5 rfl rfl ?_
          refine lm_if_lt C (tgt := 58) dL_first_37 (by decide) rfl (fun c5 => ?_) (fun c5 => ?_)
          · have hF := lm_brt hF c5
            refine lm_iconst C (v := (1 : Int32)) dL_first_58 (by decide) rfl ?_
            refine lm_goto C (tgt := 63) dL_first_59 (by decide) ?_
            refine lm_istore C (lv' := [(0, .ref (b 0)), (1, .ref (b 1)), (2, .ref (b 2)), (3, .ref (b 3)), (4, .int x4), (5, .int x5), (6, .int x6), (7, .int (σx 2 x6.toNatClampNeg)), (8, .int (1 : Int32))]) dL_first_63 (by decide) rfl [1, 2, 3, 4, 5, 6, 7, 8, 0] rfl rfl ?_
            refine lm_iload C dL_first_65 7 rfl rfl ?_
            refine lm_iload C dL_first_67 4 rfl rfl ?_
            refine lm_icmp_eq C (tgt := 82) dL_first_69 (by decide) rfl (fun c6 => ?_) (fun c6 => ?_)
            · have hF := lm_brt hF c6
              refine lm_iload C dL_first_82 5 rfl rfl ?_
              refine lm_istore C (lv' := [(0, .ref (b 0)), (1, .ref (b 1)), (2, .ref (b 2)), (3, .ref (b 3)), (4, .int x4), (5, .int x5), (6, .int x6), (7, .int (σx 2 x6.toNatClampNeg)), (8, .int (1 : Int32))]) dL_first_84 (by decide) rfl [1, 2, 3, 4, 5, 0, 6, 7, 8] rfl rfl ?_
              refine lm_iinc C (lv' := [(0, .ref (b 0)), (1, .ref (b 1)), (2, .ref (b 2)), (3, .ref (b 3)), (4, .int x4), (5, .int x5), (6, .int (x6 + (1 : Int32))), (7, .int (σx 2 x6.toNatClampNeg)), (8, .int (1 : Int32))]) (x6 + (1 : Int32)) dL_first_86 6 rfl rfl (by decide) rfl [1, 2, 3, 4, 5, 6, 0, 7, 8] rfl rfl ?_
              refine lm_goto C (tgt := 6) dL_first_89 (by decide) ?_
              refine lm_lvsub (lv' := [(0, .ref (b 0)), (1, .ref (b 1)), (2, .ref (b 2)), (3, .ref (b 3)), (4, .int x4), (5, .int x5), (6, .int (x6 + (1 : Int32)))]) [0, 1, 2, 3, 4, 5, 6] rfl ?_
              exact ih σx x4 x5 (x6 + (1 : Int32)) hF
            · have hF := lm_brf hF c6
              refine lm_iload C dL_first_72 8 rfl rfl ?_
              refine lm_if_eq C (tgt := 82) dL_first_74 (by decide) rfl (fun c7 => ?_) (fun c7 => ?_)
              · exact absurd c7 (by decide)
              · refine lm_iload C dL_first_77 7 rfl rfl ?_
                refine lm_goto C (tgt := 84) dL_first_79 (by decide) ?_
                refine lm_istore C (lv' := [(0, .ref (b 0)), (1, .ref (b 1)), (2, .ref (b 2)), (3, .ref (b 3)), (4, .int x4), (5, .int (σx 2 x6.toNatClampNeg)), (6, .int x6), (7, .int (σx 2 x6.toNatClampNeg)), (8, .int (1 : Int32))]) dL_first_84 (by decide) rfl [1, 2, 3, 4, 5, 0, 6, 7, 8] rfl rfl ?_
                refine lm_iinc C (lv' := [(0, .ref (b 0)), (1, .ref (b 1)), (2, .ref (b 2)), (3, .ref (b 3)), (4, .int x4), (5, .int (σx 2 x6.toNatClampNeg)), (6, .int (x6 + (1 : Int32))), (7, .int (σx 2 x6.toNatClampNeg)), (8, .int (1 : Int32))]) (x6 + (1 : Int32)) dL_first_86 6 rfl rfl (by decide) rfl [1, 2, 3, 4, 5, 6, 0, 7, 8] rfl rfl ?_
                refine lm_goto C (tgt := 6) dL_first_89 (by decide) ?_
                refine lm_lvsub (lv' := [(0, .ref (b 0)), (1, .ref (b 1)), (2, .ref (b 2)), (3, .ref (b 3)), (4, .int x4), (5, .int (σx 2 x6.toNatClampNeg)), (6, .int (x6 + (1 : Int32)))]) [0, 1, 2, 3, 4, 5, 6] rfl ?_
                exact ih σx x4 (σx 2 x6.toNatClampNeg) (x6 + (1 : Int32)) hF
          · have hF := lm_brf hF c5
            refine lm_aload_n C dL_first_40 rfl 0 rfl rfl ?_
            refine lm_iconst C (v := (1 : Int32)) dL_first_41 (by decide) rfl ?_
            refine lm_iald C (v := (σx 0 1)) 0 rfl (by unfold vp_in; decide) rfl dL_first_42 rfl ?_
            refine lm_iconst C (v := (1 : Int32)) dL_first_43 (by decide) rfl ?_
            refine lm_icmp_ne C (tgt := 62) dL_first_44 (by decide) rfl (fun c8 => ?_) (fun c8 => ?_)
            · have hF := lm_brt hF c8
              refine lm_iconst C (v := (0 : Int32)) dL_first_62 (by decide) rfl ?_
              refine lm_istore C (lv' := [(0, .ref (b 0)), (1, .ref (b 1)), (2, .ref (b 2)), (3, .ref (b 3)), (4, .int x4), (5, .int x5), (6, .int x6), (7, .int (σx 2 x6.toNatClampNeg)), (8, .int (0 : Int32))]) dL_first_63 (by decide) rfl [1, 2, 3, 4, 5, 6, 7, 8, 0] rfl rfl ?_
              refine lm_iload C dL_first_65 7 rfl rfl ?_
              refine lm_iload C dL_first_67 4 rfl rfl ?_
              refine lm_icmp_eq C (tgt := 82) dL_first_69 (by decide) rfl (fun c9 => ?_) (fun c9 => ?_)
              · have hF := lm_brt hF c9
                refine lm_iload C dL_first_82 5 rfl rfl ?_
                refine lm_istore C (lv' := [(0, .ref (b 0)), (1, .ref (b 1)), (2, .ref (b 2)), (3, .ref (b 3)), (4, .int x4), (5, .int x5), (6, .int x6), (7, .int (σx 2 x6.toNatClampNeg)), (8, .int (0 : Int32))]) dL_first_84 (by decide) rfl [1, 2, 3, 4, 5, 0, 6, 7, 8] rfl rfl ?_
                refine lm_iinc C (lv' := [(0, .ref (b 0)), (1, .ref (b 1)), (2, .ref (b 2)), (3, .ref (b 3)), (4, .int x4), (5, .int x5), (6, .int (x6 + (1 : Int32))), (7, .int (σx 2 x6.toNatClampNeg)), (8, .int (0 : Int32))]) (x6 + (1 : Int32)) dL_first_86 6 rfl rfl (by decide) rfl [1, 2, 3, 4, 5, 6, 0, 7, 8] rfl rfl ?_
                refine lm_goto C (tgt := 6) dL_first_89 (by decide) ?_
                refine lm_lvsub (lv' := [(0, .ref (b 0)), (1, .ref (b 1)), (2, .ref (b 2)), (3, .ref (b 3)), (4, .int x4), (5, .int x5), (6, .int (x6 + (1 : Int32)))]) [0, 1, 2, 3, 4, 5, 6] rfl ?_
                exact ih σx x4 x5 (x6 + (1 : Int32)) hF
              · have hF := lm_brf hF c9
                refine lm_iload C dL_first_72 8 rfl rfl ?_
                refine lm_if_eq C (tgt := 82) dL_first_74 (by decide) rfl (fun c10 => ?_) (fun c10 => ?_)
                · refine lm_iload C dL_first_82 5 rfl rfl ?_
                  refine lm_istore C (lv' := [(0, .ref (b 0)), (1, .ref (b 1)), (2, .ref (b 2)), (3, .ref (b 3)), (4, .int x4), (5, .int x5), (6, .int x6), (7, .int (σx 2 x6.toNatClampNeg)), (8, .int (0 : Int32))]) dL_first_84 (by decide) rfl [1, 2, 3, 4, 5, 0, 6, 7, 8] rfl rfl ?_
                  refine lm_iinc C (lv' := [(0, .ref (b 0)), (1, .ref (b 1)), (2, .ref (b 2)), (3, .ref (b 3)), (4, .int x4), (5, .int x5), (6, .int (x6 + (1 : Int32))), (7, .int (σx 2 x6.toNatClampNeg)), (8, .int (0 : Int32))]) (x6 + (1 : Int32)) dL_first_86 6 rfl rfl (by decide) rfl [1, 2, 3, 4, 5, 6, 0, 7, 8] rfl rfl ?_
                  refine lm_goto C (tgt := 6) dL_first_89 (by decide) ?_
                  refine lm_lvsub (lv' := [(0, .ref (b 0)), (1, .ref (b 1)), (2, .ref (b 2)), (3, .ref (b 3)), (4, .int x4), (5, .int x5), (6, .int (x6 + (1 : Int32)))]) [0, 1, 2, 3, 4, 5, 6] rfl ?_
                  exact ih σx x4 x5 (x6 + (1 : Int32)) hF
                · exact absurd (by decide) c10
            · have hF := lm_brf hF c8
              refine lm_aload_n C dL_first_47 rfl 3 rfl rfl ?_
              refine lm_iload C dL_first_48 7 rfl rfl ?_
              obtain ⟨b11, hF⟩ := lm_gie hF
              refine lm_iald C (v := (σx 3 ((σx 2 x6.toNatClampNeg)).toNatClampNeg)) 3 rfl b11 rfl dL_first_50 rfl ?_
              refine lm_aload_n C dL_first_51 rfl 3 rfl rfl ?_
              refine lm_iload C dL_first_52 5 rfl rfl ?_
              obtain ⟨b12, hF⟩ := lm_gie hF
              refine lm_iald C (v := (σx 3 x5.toNatClampNeg)) 3 rfl b12 rfl dL_first_54 rfl ?_
              refine lm_icmp_ge C (tgt := 62) dL_first_55 (by decide) rfl (fun c13 => ?_) (fun c13 => ?_)
              · have hF := lm_brt hF c13
                refine lm_iconst C (v := (0 : Int32)) dL_first_62 (by decide) rfl ?_
                refine lm_istore C (lv' := [(0, .ref (b 0)), (1, .ref (b 1)), (2, .ref (b 2)), (3, .ref (b 3)), (4, .int x4), (5, .int x5), (6, .int x6), (7, .int (σx 2 x6.toNatClampNeg)), (8, .int (0 : Int32))]) dL_first_63 (by decide) rfl [1, 2, 3, 4, 5, 6, 7, 8, 0] rfl rfl ?_
                refine lm_iload C dL_first_65 7 rfl rfl ?_
                refine lm_iload C dL_first_67 4 rfl rfl ?_
                refine lm_icmp_eq C (tgt := 82) dL_first_69 (by decide) rfl (fun c14 => ?_) (fun c14 => ?_)
                · have hF := lm_brt hF c14
                  refine lm_iload C dL_first_82 5 rfl rfl ?_
                  refine lm_istore C (lv' := [(0, .ref (b 0)), (1, .ref (b 1)), (2, .ref (b 2)), (3, .ref (b 3)), (4, .int x4), (5, .int x5), (6, .int x6), (7, .int (σx 2 x6.toNatClampNeg)), (8, .int (0 : Int32))]) dL_first_84 (by decide) rfl [1, 2, 3, 4, 5, 0, 6, 7, 8] rfl rfl ?_
                  refine lm_iinc C (lv' := [(0, .ref (b 0)), (1, .ref (b 1)), (2, .ref (b 2)), (3, .ref (b 3)), (4, .int x4), (5, .int x5), (6, .int (x6 + (1 : Int32))), (7, .int (σx 2 x6.toNatClampNeg)), (8, .int (0 : Int32))]) (x6 + (1 : Int32)) dL_first_86 6 rfl rfl (by decide) rfl [1, 2, 3, 4, 5, 6, 0, 7, 8] rfl rfl ?_
                  refine lm_goto C (tgt := 6) dL_first_89 (by decide) ?_
                  refine lm_lvsub (lv' := [(0, .ref (b 0)), (1, .ref (b 1)), (2, .ref (b 2)), (3, .ref (b 3)), (4, .int x4), (5, .int x5), (6, .int (x6 + (1 : Int32)))]) [0, 1, 2, 3, 4, 5, 6] rfl ?_
                  exact ih σx x4 x5 (x6 + (1 : Int32)) hF
                · have hF := lm_brf hF c14
                  refine lm_iload C dL_first_72 8 rfl rfl ?_
                  refine lm_if_eq C (tgt := 82) dL_first_74 (by decide) rfl (fun c15 => ?_) (fun c15 => ?_)
                  · refine lm_iload C dL_first_82 5 rfl rfl ?_
                    refine lm_istore C (lv' := [(0, .ref (b 0)), (1, .ref (b 1)), (2, .ref (b 2)), (3, .ref (b 3)), (4, .int x4), (5, .int x5), (6, .int x6), (7, .int (σx 2 x6.toNatClampNeg)), (8, .int (0 : Int32))]) dL_first_84 (by decide) rfl [1, 2, 3, 4, 5, 0, 6, 7, 8] rfl rfl ?_
                    refine lm_iinc C (lv' := [(0, .ref (b 0)), (1, .ref (b 1)), (2, .ref (b 2)), (3, .ref (b 3)), (4, .int x4), (5, .int x5), (6, .int (x6 + (1 : Int32))), (7, .int (σx 2 x6.toNatClampNeg)), (8, .int (0 : Int32))]) (x6 + (1 : Int32)) dL_first_86 6 rfl rfl (by decide) rfl [1, 2, 3, 4, 5, 6, 0, 7, 8] rfl rfl ?_
                    refine lm_goto C (tgt := 6) dL_first_89 (by decide) ?_
                    refine lm_lvsub (lv' := [(0, .ref (b 0)), (1, .ref (b 1)), (2, .ref (b 2)), (3, .ref (b 3)), (4, .int x4), (5, .int x5), (6, .int (x6 + (1 : Int32)))]) [0, 1, 2, 3, 4, 5, 6] rfl ?_
                    exact ih σx x4 x5 (x6 + (1 : Int32)) hF
                  · exact absurd (by decide) c15
              · have hF := lm_brf hF c13
                refine lm_iconst C (v := (1 : Int32)) dL_first_58 (by decide) rfl ?_
                refine lm_goto C (tgt := 63) dL_first_59 (by decide) ?_
                refine lm_istore C (lv' := [(0, .ref (b 0)), (1, .ref (b 1)), (2, .ref (b 2)), (3, .ref (b 3)), (4, .int x4), (5, .int x5), (6, .int x6), (7, .int (σx 2 x6.toNatClampNeg)), (8, .int (1 : Int32))]) dL_first_63 (by decide) rfl [1, 2, 3, 4, 5, 6, 7, 8, 0] rfl rfl ?_
                refine lm_iload C dL_first_65 7 rfl rfl ?_
                refine lm_iload C dL_first_67 4 rfl rfl ?_
                refine lm_icmp_eq C (tgt := 82) dL_first_69 (by decide) rfl (fun c16 => ?_) (fun c16 => ?_)
                · have hF := lm_brt hF c16
                  refine lm_iload C dL_first_82 5 rfl rfl ?_
                  refine lm_istore C (lv' := [(0, .ref (b 0)), (1, .ref (b 1)), (2, .ref (b 2)), (3, .ref (b 3)), (4, .int x4), (5, .int x5), (6, .int x6), (7, .int (σx 2 x6.toNatClampNeg)), (8, .int (1 : Int32))]) dL_first_84 (by decide) rfl [1, 2, 3, 4, 5, 0, 6, 7, 8] rfl rfl ?_
                  refine lm_iinc C (lv' := [(0, .ref (b 0)), (1, .ref (b 1)), (2, .ref (b 2)), (3, .ref (b 3)), (4, .int x4), (5, .int x5), (6, .int (x6 + (1 : Int32))), (7, .int (σx 2 x6.toNatClampNeg)), (8, .int (1 : Int32))]) (x6 + (1 : Int32)) dL_first_86 6 rfl rfl (by decide) rfl [1, 2, 3, 4, 5, 6, 0, 7, 8] rfl rfl ?_
                  refine lm_goto C (tgt := 6) dL_first_89 (by decide) ?_
                  refine lm_lvsub (lv' := [(0, .ref (b 0)), (1, .ref (b 1)), (2, .ref (b 2)), (3, .ref (b 3)), (4, .int x4), (5, .int x5), (6, .int (x6 + (1 : Int32)))]) [0, 1, 2, 3, 4, 5, 6] rfl ?_
                  exact ih σx x4 x5 (x6 + (1 : Int32)) hF
                · have hF := lm_brf hF c16
                  refine lm_iload C dL_first_72 8 rfl rfl ?_
                  refine lm_if_eq C (tgt := 82) dL_first_74 (by decide) rfl (fun c17 => ?_) (fun c17 => ?_)
                  · exact absurd c17 (by decide)
                  · refine lm_iload C dL_first_77 7 rfl rfl ?_
                    refine lm_goto C (tgt := 84) dL_first_79 (by decide) ?_
                    refine lm_istore C (lv' := [(0, .ref (b 0)), (1, .ref (b 1)), (2, .ref (b 2)), (3, .ref (b 3)), (4, .int x4), (5, .int (σx 2 x6.toNatClampNeg)), (6, .int x6), (7, .int (σx 2 x6.toNatClampNeg)), (8, .int (1 : Int32))]) dL_first_84 (by decide) rfl [1, 2, 3, 4, 5, 0, 6, 7, 8] rfl rfl ?_
                    refine lm_iinc C (lv' := [(0, .ref (b 0)), (1, .ref (b 1)), (2, .ref (b 2)), (3, .ref (b 3)), (4, .int x4), (5, .int (σx 2 x6.toNatClampNeg)), (6, .int (x6 + (1 : Int32))), (7, .int (σx 2 x6.toNatClampNeg)), (8, .int (1 : Int32))]) (x6 + (1 : Int32)) dL_first_86 6 rfl rfl (by decide) rfl [1, 2, 3, 4, 5, 6, 0, 7, 8] rfl rfl ?_
                    refine lm_goto C (tgt := 6) dL_first_89 (by decide) ?_
                    refine lm_lvsub (lv' := [(0, .ref (b 0)), (1, .ref (b 1)), (2, .ref (b 2)), (3, .ref (b 3)), (4, .int x4), (5, .int (σx 2 x6.toNatClampNeg)), (6, .int (x6 + (1 : Int32)))]) [0, 1, 2, 3, 4, 5, 6] rfl ?_
                    exact ih σx x4 (σx 2 x6.toNatClampNeg) (x6 + (1 : Int32)) hF
        · have hF := lm_brf hF c3
          refine lm_aload_n C dL_first_22 rfl 1 rfl rfl ?_
          refine lm_iload C dL_first_23 6 rfl rfl ?_
          obtain ⟨b18, hF⟩ := lm_gie hF
          refine lm_iald C (v := (σx 1 x6.toNatClampNeg)) 1 rfl b18 rfl dL_first_25 rfl ?_
          refine lm_goto C (tgt := 33) dL_first_26 (by decide) ?_
          refine lm_istore C (lv' := [(0, .ref (b 0)), (1, .ref (b 1)), (2, .ref (b 2)), (3, .ref (b 3)), (4, .int x4), (5, .int x5), (6, .int x6), (7, .int (σx 1 x6.toNatClampNeg))]) dL_first_33 (by decide) rfl [1, 2, 3, 4, 5, 6, 7, 0] rfl rfl ?_
          refine lm_iload C dL_first_35 5 rfl rfl ?_
          refine lm_if_lt C (tgt := 58) dL_first_37 (by decide) rfl (fun c19 => ?_) (fun c19 => ?_)
          · have hF := lm_brt hF c19
            refine lm_iconst C (v := (1 : Int32)) dL_first_58 (by decide) rfl ?_
            refine lm_goto C (tgt := 63) dL_first_59 (by decide) ?_
            refine lm_istore C (lv' := [(0, .ref (b 0)), (1, .ref (b 1)), (2, .ref (b 2)), (3, .ref (b 3)), (4, .int x4), (5, .int x5), (6, .int x6), (7, .int (σx 1 x6.toNatClampNeg)), (8, .int (1 : Int32))]) dL_first_63 (by decide) rfl [1, 2, 3, 4, 5, 6, 7, 8, 0] rfl rfl ?_
            refine lm_iload C dL_first_65 7 rfl rfl ?_
            refine lm_iload C dL_first_67 4 rfl rfl ?_
            refine lm_icmp_eq C (tgt := 82) dL_first_69 (by decide) rfl (fun c20 => ?_) (fun c20 => ?_)
            · have hF := lm_brt hF c20
              refine lm_iload C dL_first_82 5 rfl rfl ?_
              refine lm_istore C (lv' := [(0, .ref (b 0)), (1, .ref (b 1)), (2, .ref (b 2)), (3, .ref (b 3)), (4, .int x4), (5, .int x5), (6, .int x6), (7, .int (σx 1 x6.toNatClampNeg)), (8, .int (1 : Int32))]) dL_first_84 (by decide) rfl [1, 2, 3, 4, 5, 0, 6, 7, 8] rfl rfl ?_
              refine lm_iinc C (lv' := [(0, .ref (b 0)), (1, .ref (b 1)), (2, .ref (b 2)), (3, .ref (b 3)), (4, .int x4), (5, .int x5), (6, .int (x6 + (1 : Int32))), (7, .int (σx 1 x6.toNatClampNeg)), (8, .int (1 : Int32))]) (x6 + (1 : Int32)) dL_first_86 6 rfl rfl (by decide) rfl [1, 2, 3, 4, 5, 6, 0, 7, 8] rfl rfl ?_
              refine lm_goto C (tgt := 6) dL_first_89 (by decide) ?_
              refine lm_lvsub (lv' := [(0, .ref (b 0)), (1, .ref (b 1)), (2, .ref (b 2)), (3, .ref (b 3)), (4, .int x4), (5, .int x5), (6, .int (x6 + (1 : Int32)))]) [0, 1, 2, 3, 4, 5, 6] rfl ?_
              exact ih σx x4 x5 (x6 + (1 : Int32)) hF
            · have hF := lm_brf hF c20
              refine lm_iload C dL_first_72 8 rfl rfl ?_
              refine lm_if_eq C (tgt := 82) dL_first_74 (by decide) rfl (fun c21 => ?_) (fun c21 => ?_)
              · exact absurd c21 (by decide)
              · refine lm_iload C dL_first_77 7 rfl rfl ?_
                refine lm_goto C (tgt := 84) dL_first_79 (by decide) ?_
                refine lm_istore C (lv' := [(0, .ref (b 0)), (1, .ref (b 1)), (2, .ref (b 2)), (3, .ref (b 3)), (4, .int x4), (5, .int (σx 1 x6.toNatClampNeg)), (6, .int x6), (7, .int (σx 1 x6.toNatClampNeg)), (8, .int (1 : Int32))]) dL_first_84 (by decide) rfl [1, 2, 3, 4, 5, 0, 6, 7, 8] rfl rfl ?_
                refine lm_iinc C (lv' := [(0, .ref (b 0)), (1, .ref (b 1)), (2, .ref (b 2)), (3, .ref (b 3)), (4, .int x4), (5, .int (σx 1 x6.toNatClampNeg)), (6, .int (x6 + (1 : Int32))), (7, .int (σx 1 x6.toNatClampNeg)), (8, .int (1 : Int32))]) (x6 + (1 : Int32)) dL_first_86 6 rfl rfl (by decide) rfl [1, 2, 3, 4, 5, 6, 0, 7, 8] rfl rfl ?_
                refine lm_goto C (tgt := 6) dL_first_89 (by decide) ?_
                refine lm_lvsub (lv' := [(0, .ref (b 0)), (1, .ref (b 1)), (2, .ref (b 2)), (3, .ref (b 3)), (4, .int x4), (5, .int (σx 1 x6.toNatClampNeg)), (6, .int (x6 + (1 : Int32)))]) [0, 1, 2, 3, 4, 5, 6] rfl ?_
                exact ih σx x4 (σx 1 x6.toNatClampNeg) (x6 + (1 : Int32)) hF
          · have hF := lm_brf hF c19
            refine lm_aload_n C dL_first_40 rfl 0 rfl rfl ?_
            refine lm_iconst C (v := (1 : Int32)) dL_first_41 (by decide) rfl ?_
            refine lm_iald C (v := (σx 0 1)) 0 rfl (by unfold vp_in; decide) rfl dL_first_42 rfl ?_
            refine lm_iconst C (v := (1 : Int32)) dL_first_43 (by decide) rfl ?_
            refine lm_icmp_ne C (tgt := 62) dL_first_44 (by decide) rfl (fun c22 => ?_) (fun c22 => ?_)
            · have hF := lm_brt hF c22
              refine lm_iconst C (v := (0 : Int32)) dL_first_62 (by decide) rfl ?_
              refine lm_istore C (lv' := [(0, .ref (b 0)), (1, .ref (b 1)), (2, .ref (b 2)), (3, .ref (b 3)), (4, .int x4), (5, .int x5), (6, .int x6), (7, .int (σx 1 x6.toNatClampNeg)), (8, .int (0 : Int32))]) dL_first_63 (by decide) rfl [1, 2, 3, 4, 5, 6, 7, 8, 0] rfl rfl ?_
              refine lm_iload C dL_first_65 7 rfl rfl ?_
              refine lm_iload C dL_first_67 4 rfl rfl ?_
              refine lm_icmp_eq C (tgt := 82) dL_first_69 (by decide) rfl (fun c23 => ?_) (fun c23 => ?_)
              · have hF := lm_brt hF c23
                refine lm_iload C dL_first_82 5 rfl rfl ?_
                refine lm_istore C (lv' := [(0, .ref (b 0)), (1, .ref (b 1)), (2, .ref (b 2)), (3, .ref (b 3)), (4, .int x4), (5, .int x5), (6, .int x6), (7, .int (σx 1 x6.toNatClampNeg)), (8, .int (0 : Int32))]) dL_first_84 (by decide) rfl [1, 2, 3, 4, 5, 0, 6, 7, 8] rfl rfl ?_
                refine lm_iinc C (lv' := [(0, .ref (b 0)), (1, .ref (b 1)), (2, .ref (b 2)), (3, .ref (b 3)), (4, .int x4), (5, .int x5), (6, .int (x6 + (1 : Int32))), (7, .int (σx 1 x6.toNatClampNeg)), (8, .int (0 : Int32))]) (x6 + (1 : Int32)) dL_first_86 6 rfl rfl (by decide) rfl [1, 2, 3, 4, 5, 6, 0, 7, 8] rfl rfl ?_
                refine lm_goto C (tgt := 6) dL_first_89 (by decide) ?_
                refine lm_lvsub (lv' := [(0, .ref (b 0)), (1, .ref (b 1)), (2, .ref (b 2)), (3, .ref (b 3)), (4, .int x4), (5, .int x5), (6, .int (x6 + (1 : Int32)))]) [0, 1, 2, 3, 4, 5, 6] rfl ?_
                exact ih σx x4 x5 (x6 + (1 : Int32)) hF
              · have hF := lm_brf hF c23
                refine lm_iload C dL_first_72 8 rfl rfl ?_
                refine lm_if_eq C (tgt := 82) dL_first_74 (by decide) rfl (fun c24 => ?_) (fun c24 => ?_)
                · refine lm_iload C dL_first_82 5 rfl rfl ?_
                  refine lm_istore C (lv' := [(0, .ref (b 0)), (1, .ref (b 1)), (2, .ref (b 2)), (3, .ref (b 3)), (4, .int x4), (5, .int x5), (6, .int x6), (7, .int (σx 1 x6.toNatClampNeg)), (8, .int (0 : Int32))]) dL_first_84 (by decide) rfl [1, 2, 3, 4, 5, 0, 6, 7, 8] rfl rfl ?_
                  refine lm_iinc C (lv' := [(0, .ref (b 0)), (1, .ref (b 1)), (2, .ref (b 2)), (3, .ref (b 3)), (4, .int x4), (5, .int x5), (6, .int (x6 + (1 : Int32))), (7, .int (σx 1 x6.toNatClampNeg)), (8, .int (0 : Int32))]) (x6 + (1 : Int32)) dL_first_86 6 rfl rfl (by decide) rfl [1, 2, 3, 4, 5, 6, 0, 7, 8] rfl rfl ?_
                  refine lm_goto C (tgt := 6) dL_first_89 (by decide) ?_
                  refine lm_lvsub (lv' := [(0, .ref (b 0)), (1, .ref (b 1)), (2, .ref (b 2)), (3, .ref (b 3)), (4, .int x4), (5, .int x5), (6, .int (x6 + (1 : Int32)))]) [0, 1, 2, 3, 4, 5, 6] rfl ?_
                  exact ih σx x4 x5 (x6 + (1 : Int32)) hF
                · exact absurd (by decide) c24
            · have hF := lm_brf hF c22
              refine lm_aload_n C dL_first_47 rfl 3 rfl rfl ?_
              refine lm_iload C dL_first_48 7 rfl rfl ?_
              obtain ⟨b25, hF⟩ := lm_gie hF
              refine lm_iald C (v := (σx 3 ((σx 1 x6.toNatClampNeg)).toNatClampNeg)) 3 rfl b25 rfl dL_first_50 rfl ?_
              refine lm_aload_n C dL_first_51 rfl 3 rfl rfl ?_
              refine lm_iload C dL_first_52 5 rfl rfl ?_
              obtain ⟨b26, hF⟩ := lm_gie hF
              refine lm_iald C (v := (σx 3 x5.toNatClampNeg)) 3 rfl b26 rfl dL_first_54 rfl ?_
              refine lm_icmp_ge C (tgt := 62) dL_first_55 (by decide) rfl (fun c27 => ?_) (fun c27 => ?_)
              · have hF := lm_brt hF c27
                refine lm_iconst C (v := (0 : Int32)) dL_first_62 (by decide) rfl ?_
                refine lm_istore C (lv' := [(0, .ref (b 0)), (1, .ref (b 1)), (2, .ref (b 2)), (3, .ref (b 3)), (4, .int x4), (5, .int x5), (6, .int x6), (7, .int (σx 1 x6.toNatClampNeg)), (8, .int (0 : Int32))]) dL_first_63 (by decide) rfl [1, 2, 3, 4, 5, 6, 7, 8, 0] rfl rfl ?_
                refine lm_iload C dL_first_65 7 rfl rfl ?_
                refine lm_iload C dL_first_67 4 rfl rfl ?_
                refine lm_icmp_eq C (tgt := 82) dL_first_69 (by decide) rfl (fun c28 => ?_) (fun c28 => ?_)
                · have hF := lm_brt hF c28
                  refine lm_iload C dL_first_82 5 rfl rfl ?_
                  refine lm_istore C (lv' := [(0, .ref (b 0)), (1, .ref (b 1)), (2, .ref (b 2)), (3, .ref (b 3)), (4, .int x4), (5, .int x5), (6, .int x6), (7, .int (σx 1 x6.toNatClampNeg)), (8, .int (0 : Int32))]) dL_first_84 (by decide) rfl [1, 2, 3, 4, 5, 0, 6, 7, 8] rfl rfl ?_
                  refine lm_iinc C (lv' := [(0, .ref (b 0)), (1, .ref (b 1)), (2, .ref (b 2)), (3, .ref (b 3)), (4, .int x4), (5, .int x5), (6, .int (x6 + (1 : Int32))), (7, .int (σx 1 x6.toNatClampNeg)), (8, .int (0 : Int32))]) (x6 + (1 : Int32)) dL_first_86 6 rfl rfl (by decide) rfl [1, 2, 3, 4, 5, 6, 0, 7, 8] rfl rfl ?_
                  refine lm_goto C (tgt := 6) dL_first_89 (by decide) ?_
                  refine lm_lvsub (lv' := [(0, .ref (b 0)), (1, .ref (b 1)), (2, .ref (b 2)), (3, .ref (b 3)), (4, .int x4), (5, .int x5), (6, .int (x6 + (1 : Int32)))]) [0, 1, 2, 3, 4, 5, 6] rfl ?_
                  exact ih σx x4 x5 (x6 + (1 : Int32)) hF
                · have hF := lm_brf hF c28
                  refine lm_iload C dL_first_72 8 rfl rfl ?_
                  refine lm_if_eq C (tgt := 82) dL_first_74 (by decide) rfl (fun c29 => ?_) (fun c29 => ?_)
                  · refine lm_iload C dL_first_82 5 rfl rfl ?_
                    refine lm_istore C (lv' := [(0, .ref (b 0)), (1, .ref (b 1)), (2, .ref (b 2)), (3, .ref (b 3)), (4, .int x4), (5, .int x5), (6, .int x6), (7, .int (σx 1 x6.toNatClampNeg)), (8, .int (0 : Int32))]) dL_first_84 (by decide) rfl [1, 2, 3, 4, 5, 0, 6, 7, 8] rfl rfl ?_
                    refine lm_iinc C (lv' := [(0, .ref (b 0)), (1, .ref (b 1)), (2, .ref (b 2)), (3, .ref (b 3)), (4, .int x4), (5, .int x5), (6, .int (x6 + (1 : Int32))), (7, .int (σx 1 x6.toNatClampNeg)), (8, .int (0 : Int32))]) (x6 + (1 : Int32)) dL_first_86 6 rfl rfl (by decide) rfl [1, 2, 3, 4, 5, 6, 0, 7, 8] rfl rfl ?_
                    refine lm_goto C (tgt := 6) dL_first_89 (by decide) ?_
                    refine lm_lvsub (lv' := [(0, .ref (b 0)), (1, .ref (b 1)), (2, .ref (b 2)), (3, .ref (b 3)), (4, .int x4), (5, .int x5), (6, .int (x6 + (1 : Int32)))]) [0, 1, 2, 3, 4, 5, 6] rfl ?_
                    exact ih σx x4 x5 (x6 + (1 : Int32)) hF
                  · exact absurd (by decide) c29
              · have hF := lm_brf hF c27
                refine lm_iconst C (v := (1 : Int32)) dL_first_58 (by decide) rfl ?_
                refine lm_goto C (tgt := 63) dL_first_59 (by decide) ?_
                refine lm_istore C (lv' := [(0, .ref (b 0)), (1, .ref (b 1)), (2, .ref (b 2)), (3, .ref (b 3)), (4, .int x4), (5, .int x5), (6, .int x6), (7, .int (σx 1 x6.toNatClampNeg)), (8, .int (1 : Int32))]) dL_first_63 (by decide) rfl [1, 2, 3, 4, 5, 6, 7, 8, 0] rfl rfl ?_
                refine lm_iload C dL_first_65 7 rfl rfl ?_
                refine lm_iload C dL_first_67 4 rfl rfl ?_
                refine lm_icmp_eq C (tgt := 82) dL_first_69 (by decide) rfl (fun c30 => ?_) (fun c30 => ?_)
                · have hF := lm_brt hF c30
                  refine lm_iload C dL_first_82 5 rfl rfl ?_
                  refine lm_istore C (lv' := [(0, .ref (b 0)), (1, .ref (b 1)), (2, .ref (b 2)), (3, .ref (b 3)), (4, .int x4), (5, .int x5), (6, .int x6), (7, .int (σx 1 x6.toNatClampNeg)), (8, .int (1 : Int32))]) dL_first_84 (by decide) rfl [1, 2, 3, 4, 5, 0, 6, 7, 8] rfl rfl ?_
                  refine lm_iinc C (lv' := [(0, .ref (b 0)), (1, .ref (b 1)), (2, .ref (b 2)), (3, .ref (b 3)), (4, .int x4), (5, .int x5), (6, .int (x6 + (1 : Int32))), (7, .int (σx 1 x6.toNatClampNeg)), (8, .int (1 : Int32))]) (x6 + (1 : Int32)) dL_first_86 6 rfl rfl (by decide) rfl [1, 2, 3, 4, 5, 6, 0, 7, 8] rfl rfl ?_
                  refine lm_goto C (tgt := 6) dL_first_89 (by decide) ?_
                  refine lm_lvsub (lv' := [(0, .ref (b 0)), (1, .ref (b 1)), (2, .ref (b 2)), (3, .ref (b 3)), (4, .int x4), (5, .int x5), (6, .int (x6 + (1 : Int32)))]) [0, 1, 2, 3, 4, 5, 6] rfl ?_
                  exact ih σx x4 x5 (x6 + (1 : Int32)) hF
                · have hF := lm_brf hF c30
                  refine lm_iload C dL_first_72 8 rfl rfl ?_
                  refine lm_if_eq C (tgt := 82) dL_first_74 (by decide) rfl (fun c31 => ?_) (fun c31 => ?_)
                  · exact absurd c31 (by decide)
                  · refine lm_iload C dL_first_77 7 rfl rfl ?_
                    refine lm_goto C (tgt := 84) dL_first_79 (by decide) ?_
                    refine lm_istore C (lv' := [(0, .ref (b 0)), (1, .ref (b 1)), (2, .ref (b 2)), (3, .ref (b 3)), (4, .int x4), (5, .int (σx 1 x6.toNatClampNeg)), (6, .int x6), (7, .int (σx 1 x6.toNatClampNeg)), (8, .int (1 : Int32))]) dL_first_84 (by decide) rfl [1, 2, 3, 4, 5, 0, 6, 7, 8] rfl rfl ?_
                    refine lm_iinc C (lv' := [(0, .ref (b 0)), (1, .ref (b 1)), (2, .ref (b 2)), (3, .ref (b 3)), (4, .int x4), (5, .int (σx 1 x6.toNatClampNeg)), (6, .int (x6 + (1 : Int32))), (7, .int (σx 1 x6.toNatClampNeg)), (8, .int (1 : Int32))]) (x6 + (1 : Int32)) dL_first_86 6 rfl rfl (by decide) rfl [1, 2, 3, 4, 5, 6, 0, 7, 8] rfl rfl ?_
                    refine lm_goto C (tgt := 6) dL_first_89 (by decide) ?_
                    refine lm_lvsub (lv' := [(0, .ref (b 0)), (1, .ref (b 1)), (2, .ref (b 2)), (3, .ref (b 3)), (4, .int x4), (5, .int (σx 1 x6.toNatClampNeg)), (6, .int (x6 + (1 : Int32)))]) [0, 1, 2, 3, 4, 5, 6] rfl ?_
                    exact ih σx x4 (σx 1 x6.toNatClampNeg) (x6 + (1 : Int32)) hF
  show lm_St p l e ({ frames := 1, cells := 0, slots := 0, locals := 21 }) s m_ args below meth c D (fun _ => False) 9 0 0 (lm_EndR below (some (.int r)) args s) true (lw4W z b σ) 0 [(0, .ref (b 0)), (1, .ref (b 1)), (2, .ref (b 2)), (3, .ref (b 3)), (4, .int x4)] []
  rw [F_L_first] at hF
  refine lm_iconst C (v := (-1 : Int32)) dL_first_0 (by decide) rfl ?_
  refine lm_istore C (lv' := [(0, .ref (b 0)), (1, .ref (b 1)), (2, .ref (b 2)), (3, .ref (b 3)), (4, .int x4), (5, .int (-1 : Int32))]) dL_first_1 (by decide) rfl [1, 2, 3, 4, 5, 0] rfl rfl ?_
  refine lm_iconst C (v := (0 : Int32)) dL_first_3 (by decide) rfl ?_
  refine lm_istore C (lv' := [(0, .ref (b 0)), (1, .ref (b 1)), (2, .ref (b 2)), (3, .ref (b 3)), (4, .int x4), (5, .int (-1 : Int32)), (6, .int (0 : Int32))]) dL_first_4 (by decide) rfl [1, 2, 3, 4, 5, 6, 0] rfl rfl ?_
  exact loop_6 1000 σ x4 (-1 : Int32) (0 : Int32) hF
set_option maxRecDepth 100000 in
set_option maxHeartbeats 4000000 in
theorem m_L_room (D : va_G) (z zo : ClassId) (l : Launch) (b : Nat → Nat) (σ : Hp) (x5 : Int32) (r : Int32) (σ' : Hp) (hF : F_L_room σ x5 = some (r, σ')) : lm_C D z zo l yL_room wsL_room 2 50 [.ref (b 0), .ref (b 1), .ref (b 3), .ref (b 4), .ref (b 5), .int x5] (lw6W z b σ) (some (.int r)) (lw6W z b σ') := by
  refine lm_C.of (by decide) rfl (Nat.le_of_ble_eq_true rfl) (own := RL) rfl ?_
  intro p e s m_ args below meth c C hr hk hA
  have loop_15 : ∀ (n : Nat) (σx : Hp) (x5 : Int32) (x6 : Int32) (x7 : Int32), F_L_room_L15 n σx x5 x6 x7 = some (r, σ') → lm_St p l e ({ frames := 2, cells := 0, slots := 0, locals := 50 }) s m_ args below meth c D (va_A (lw6W z b σ) s.heap.size) 8 0 0 (lm_End below D (some (.int r)) (lw6W z b σ) (lw6W z b σ') args s) false (lw6W z b σx) 15 [(0, .ref (b 0)), (1, .ref (b 1)), (2, .ref (b 3)), (3, .ref (b 4)), (4, .ref (b 5)), (5, .int x5), (6, .int x6), (7, .int x7)] [] := by
    intro n
    induction n with
    | zero => intro σx x5 x6 x7 hF; cases (show (none : Option _) = some _ from hF)
    | succ n ih =>
      intro σx x5 x6 x7 hF
      rw [F_L_room_L15] at hF
      refine lm_iload C dL_room_15 7 rfl rfl ?_
      refine lm_if_lt C (tgt := 62) dL_room_17 (by decide) rfl (fun c2 => ?_) (fun c2 => ?_)
      · have hF := lm_brt hF c2
        refine lm_aload_n C dL_room_62 rfl 0 rfl rfl ?_
        refine lm_bipush C (v := (12 : Int32)) dL_room_63 (by decide) rfl ?_
        refine lm_dup2 C dL_room_65 rfl rfl rfl ?_
        refine lm_iald C (v := (σx 0 12)) 0 rfl (by unfold vp_in; decide) rfl dL_room_66 rfl ?_
        refine lm_iload C dL_room_67 6 rfl rfl ?_
        refine lm_iadd C dL_room_69 rfl rfl ?_
        obtain ⟨σ3, eσ3, hF⟩ := lm_lte hF
        refine lm_iast C (w' := (lw6W z b σ3)) 0 rfl (by unfold vp_in; decide) dL_room_70 (by rw [← eσ3]; rfl) rfl ?_
        refine lm_iload C dL_room_71 6 rfl rfl ?_
        cases hF
        exact lm_iret C hr hk rfl rfl dL_room_73
      · have hF := lm_brf hF c2
        refine lm_aload_n C dL_room_20 rfl 0 rfl rfl ?_
        refine lm_aload_n C dL_room_21 rfl 1 rfl rfl ?_
        refine lm_aload_n C dL_room_22 rfl 2 rfl rfl ?_
        obtain ⟨r4, qr4, hF⟩ := lm_bde hF
        refine lm_callSR C (n := 3) (m_L_weights D z zo l b σx r4 qr4) gL_room_L_weights rfl (by decide +kernel) ⟨Nat.le_of_ble_eq_true rfl, Nat.le_of_ble_eq_true rfl⟩ ⟨Nat.le_of_ble_eq_true rfl, Nat.le_of_ble_eq_true rfl⟩ (fun _ h => h) rfl rfl (Nat.le_of_ble_eq_true rfl) dL_room_23 (st' := [.int r4]) rfl rfl ?_
        refine lm_aload_n C dL_room_26 rfl 0 rfl rfl ?_
        refine lm_iconst C (v := (0 : Int32)) dL_room_27 (by decide) rfl ?_
        refine lm_iald C (v := (σx 0 0)) 0 rfl (by unfold vp_in; decide) rfl dL_room_28 rfl ?_
        refine lm_icmp_le C (tgt := 62) dL_room_29 (by decide) rfl (fun c5 => ?_) (fun c5 => ?_)
        · have hF := lm_brt hF c5
          refine lm_aload_n C dL_room_62 rfl 0 rfl rfl ?_
          refine lm_bipush C (v := (12 : Int32)) dL_room_63 (by decide) rfl ?_
          refine lm_dup2 C dL_room_65 rfl rfl rfl ?_
          refine lm_iald C (v := (σx 0 12)) 0 rfl (by unfold vp_in; decide) rfl dL_room_66 rfl ?_
          refine lm_iload C dL_room_67 6 rfl rfl ?_
          refine lm_iadd C dL_room_69 rfl rfl ?_
          obtain ⟨σ6, eσ6, hF⟩ := lm_lte hF
          refine lm_iast C (w' := (lw6W z b σ6)) 0 rfl (by unfold vp_in; decide) dL_room_70 (by rw [← eσ6]; rfl) rfl ?_
          refine lm_iload C dL_room_71 6 rfl rfl ?_
          cases hF
          exact lm_iret C hr hk rfl rfl dL_room_73
        · have hF := lm_brf hF c5
          refine lm_aload_n C dL_room_32 rfl 2 rfl rfl ?_
          refine lm_iload C dL_room_33 7 rfl rfl ?_
          obtain ⟨τ7, qτ7, hF⟩ := lm_bde hF
          obtain ⟨σ8, eσ8, hF⟩ := lm_lte hF
          refine lm_callS C (n := 2) (w' := (lw6W z b σ8)) hA (m_L_out D z zo l (lw_f1 (b 3)) (lw_f1 (σx 3)) x7 τ7 qτ7) gL_room_L_out rfl (by decide +kernel) ⟨Nat.le_of_ble_eq_true rfl, Nat.le_of_ble_eq_true rfl⟩ ⟨Nat.le_of_ble_eq_true rfl, Nat.le_of_ble_eq_true rfl⟩ (lw_pk_perm [3] rfl) (by rw [← eσ8]; exact (lw_pk_perm [3] rfl).symm) rfl rfl (Nat.le_of_ble_eq_true rfl) dL_room_35 (st' := []) rfl rfl ?_
          refine lm_aload_n C dL_room_38 rfl 3 rfl rfl ?_
          refine lm_iload C dL_room_39 7 rfl rfl ?_
          obtain ⟨τ9, qτ9, hF⟩ := lm_bde hF
          obtain ⟨σ10, eσ10, hF⟩ := lm_lte hF
          refine lm_callS C (n := 2) (w' := (lw6W z b σ10)) hA (m_L_out D z zo l (lw_f1 (b 4)) (lw_f1 (σ8 4)) x7 τ9 qτ9) gL_room_L_out rfl (by decide +kernel) ⟨Nat.le_of_ble_eq_true rfl, Nat.le_of_ble_eq_true rfl⟩ ⟨Nat.le_of_ble_eq_true rfl, Nat.le_of_ble_eq_true rfl⟩ (lw_pk_perm [4] rfl) (by rw [← eσ10]; exact (lw_pk_perm [4] rfl).symm) rfl rfl (Nat.le_of_ble_eq_true rfl) dL_room_41 (st' := []) rfl rfl ?_
          refine lm_iinc C (lv' := [(0, .ref (b 0)), (1, .ref (b 1)), (2, .ref (b 3)), (3, .ref (b 4)), (4, .ref (b 5)), (5, .int x5), (6, .int (x6 + (1 : Int32))), (7, .int x7)]) (x6 + (1 : Int32)) dL_room_44 6 rfl rfl (by decide) rfl [1, 2, 3, 4, 5, 6, 0, 7] rfl rfl ?_
          refine lm_aload_n C dL_room_47 rfl 0 rfl rfl ?_
          refine lm_aload_n C dL_room_48 rfl 2 rfl rfl ?_
          refine lm_aload_n C dL_room_49 rfl 3 rfl rfl ?_
          refine lm_aload C dL_room_50 4 rfl rfl ?_
          refine lm_iload C dL_room_52 5 rfl rfl ?_
          obtain ⟨r11, qr11, hF⟩ := lm_bde hF
          refine lm_callSR C (n := 5) (m_L_first D z zo l (lw_f4 (b 0) (b 3) (b 4) (b 5)) (lw_f4 (σ10 0) (σ10 3) (σ10 4) (σ10 5)) x5 r11 qr11) gL_room_L_first rfl (by decide +kernel) ⟨Nat.le_of_ble_eq_true rfl, Nat.le_of_ble_eq_true rfl⟩ ⟨Nat.le_of_ble_eq_true rfl, Nat.le_of_ble_eq_true rfl⟩ (lw_hsub [0, 2, 2, 2] rfl) rfl rfl (Nat.le_of_ble_eq_true rfl) dL_room_54 (st' := [.int r11]) rfl rfl ?_
          refine lm_istore C (lv' := [(0, .ref (b 0)), (1, .ref (b 1)), (2, .ref (b 3)), (3, .ref (b 4)), (4, .ref (b 5)), (5, .int x5), (6, .int (x6 + (1 : Int32))), (7, .int r11)]) dL_room_57 (by decide) rfl [1, 2, 3, 4, 5, 6, 7, 0] rfl rfl ?_
          refine lm_goto C (tgt := 15) dL_room_59 (by decide) ?_
          exact ih σ10 x5 (x6 + (1 : Int32)) r11 hF
  show lm_St p l e ({ frames := 2, cells := 0, slots := 0, locals := 50 }) s m_ args below meth c D (va_A (lw6W z b σ) s.heap.size) 8 0 0 (lm_End below D (some (.int r)) (lw6W z b σ) (lw6W z b σ') args s) false (lw6W z b σ) 0 [(0, .ref (b 0)), (1, .ref (b 1)), (2, .ref (b 3)), (3, .ref (b 4)), (4, .ref (b 5)), (5, .int x5)] []
  rw [F_L_room] at hF
  refine lm_iconst C (v := (0 : Int32)) dL_room_0 (by decide) rfl ?_
  refine lm_istore C (lv' := [(0, .ref (b 0)), (1, .ref (b 1)), (2, .ref (b 3)), (3, .ref (b 4)), (4, .ref (b 5)), (5, .int x5), (6, .int (0 : Int32))]) dL_room_1 (by decide) rfl [1, 2, 3, 4, 5, 6, 0] rfl rfl ?_
  refine lm_aload_n C dL_room_3 rfl 0 rfl rfl ?_
  refine lm_aload_n C dL_room_4 rfl 2 rfl rfl ?_
  refine lm_aload_n C dL_room_5 rfl 3 rfl rfl ?_
  refine lm_aload C dL_room_6 4 rfl rfl ?_
  refine lm_iload C dL_room_8 5 rfl rfl ?_
  obtain ⟨r1, qr1, hF⟩ := lm_bde hF
  refine lm_callSR C (n := 5) (m_L_first D z zo l (lw_f4 (b 0) (b 3) (b 4) (b 5)) (lw_f4 (σ 0) (σ 3) (σ 4) (σ 5)) x5 r1 qr1) gL_room_L_first rfl (by decide +kernel) ⟨Nat.le_of_ble_eq_true rfl, Nat.le_of_ble_eq_true rfl⟩ ⟨Nat.le_of_ble_eq_true rfl, Nat.le_of_ble_eq_true rfl⟩ (lw_hsub [0, 2, 2, 2] rfl) rfl rfl (Nat.le_of_ble_eq_true rfl) dL_room_10 (st' := [.int r1]) rfl rfl ?_
  refine lm_istore C (lv' := [(0, .ref (b 0)), (1, .ref (b 1)), (2, .ref (b 3)), (3, .ref (b 4)), (4, .ref (b 5)), (5, .int x5), (6, .int (0 : Int32)), (7, .int r1)]) dL_room_13 (by decide) rfl [1, 2, 3, 4, 5, 6, 7, 0] rfl rfl ?_
  exact loop_15 1000 σ x5 (0 : Int32) r1 hF
set_option maxRecDepth 100000 in
set_option maxHeartbeats 4000000 in
theorem m_L_goes (D : va_G) (z zo : ClassId) (l : Launch) (b : Nat → Nat) (σ : Hp) (x3 : Int32) (r : Int32) (σ' : Hp) (hF : F_L_goes σ x3 = some (r, σ')) : lm_C D z zo l yL_goes wsL_goes 1 24 [.ref (b 0), .ref (b 3), .ref (b 4), .int x3] (lw6W z b σ) (some (.int r)) (lw6W z b σ') := by
  refine lm_C.of (by decide) rfl (Nat.le_of_ble_eq_true rfl) (own := RL) rfl ?_
  intro p e s m_ args below meth c C hr hk hA
  have loop_13 : ∀ (n : Nat) (σx : Hp) (x4 : Int32) (x5 : Int32), F_L_goes_L13 n σx x4 x5 = some (r, σ') → lm_St p l e ({ frames := 1, cells := 0, slots := 0, locals := 24 }) s m_ args below meth c D (va_A (lw6W z b σ) s.heap.size) 6 0 0 (lm_End below D (some (.int r)) (lw6W z b σ) (lw6W z b σ') args s) false (lw6W z b σx) 13 [(0, .ref (b 0)), (1, .ref (b 3)), (2, .ref (b 4)), (4, .int x4), (5, .int x5)] [] := by
    intro n
    induction n with
    | zero => intro σx x4 x5 hF; cases (show (none : Option _) = some _ from hF)
    | succ n ih =>
      intro σx x4 x5 hF
      rw [F_L_goes_L13] at hF
      refine lm_iload C dL_goes_13 4 rfl rfl ?_
      refine lm_bipush C (v := (10 : Int32)) dL_goes_15 (by decide) rfl ?_
      refine lm_icmp_ge C (tgt := 36) dL_goes_17 (by decide) rfl (fun c10 => ?_) (fun c10 => ?_)
      · have hF := lm_brt hF c10
        refine lm_goto C (tgt := 49) dL_goes_36 (by decide) ?_
        refine lm_aload_n C dL_goes_49 rfl 0 rfl rfl ?_
        refine lm_bipush C (v := (13 : Int32)) dL_goes_50 (by decide) rfl ?_
        refine lm_dup2 C dL_goes_52 rfl rfl rfl ?_
        refine lm_iald C (v := (σx 0 13)) 0 rfl (by unfold vp_in; decide) rfl dL_goes_53 rfl ?_
        refine lm_iload C dL_goes_54 3 rfl rfl ?_
        refine lm_aload_n C dL_goes_56 rfl 1 rfl rfl ?_
        obtain ⟨r11, qr11, hF⟩ := lm_bde hF
        refine lm_callSR C (n := 1) (m_L_many D z zo l (lw_f1 (b 3)) (lw_f1 (σx 3)) r11 qr11) gL_goes_L_many rfl (by decide +kernel) ⟨Nat.le_of_ble_eq_true rfl, Nat.le_of_ble_eq_true rfl⟩ ⟨Nat.le_of_ble_eq_true rfl, Nat.le_of_ble_eq_true rfl⟩ (lw_hsub [3] rfl) rfl rfl (Nat.le_of_ble_eq_true rfl) dL_goes_57 (st' := [.int r11, .int x4, .int (σx 0 13), .int (13 : Int32), .ref (b 0)]) rfl rfl ?_
        refine lm_isub C dL_goes_60 rfl rfl ?_
        refine lm_iadd C dL_goes_61 rfl rfl ?_
        obtain ⟨σ12, eσ12, hF⟩ := lm_lte hF
        refine lm_iast C (w' := (lw6W z b σ12)) 0 rfl (by unfold vp_in; decide) dL_goes_62 (by rw [← eσ12]; rfl) rfl ?_
        refine lm_iload C dL_goes_63 3 rfl rfl ?_
        refine lm_aload_n C dL_goes_65 rfl 1 rfl rfl ?_
        obtain ⟨r13, qr13, hF⟩ := lm_bde hF
        refine lm_callSR C (n := 1) (m_L_many D z zo l (lw_f1 (b 3)) (lw_f1 (σ12 3)) r13 qr13) gL_goes_L_many rfl (by decide +kernel) ⟨Nat.le_of_ble_eq_true rfl, Nat.le_of_ble_eq_true rfl⟩ ⟨Nat.le_of_ble_eq_true rfl, Nat.le_of_ble_eq_true rfl⟩ (lw_hsub [3] rfl) rfl rfl (Nat.le_of_ble_eq_true rfl) dL_goes_66 (st' := [.int r13, .int x4]) rfl rfl ?_
        refine lm_isub C dL_goes_69 rfl rfl ?_
        cases hF
        exact lm_iret C hr hk rfl rfl dL_goes_70
      · have hF := lm_brf hF c10
        refine lm_aload_n C dL_goes_20 rfl 1 rfl rfl ?_
        refine lm_iload C dL_goes_21 4 rfl rfl ?_
        refine lm_iconst C (v := (-1 : Int32)) dL_goes_23 (by decide) rfl ?_
        obtain ⟨b17, hF⟩ := lm_gie hF
        obtain ⟨σ14, eσ14, hF⟩ := lm_lte hF
        refine lm_iast C (w' := (lw6W z b σ14)) 3 rfl b17 dL_goes_24 (by rw [← eσ14]; rfl) rfl ?_
        refine lm_aload_n C dL_goes_25 rfl 2 rfl rfl ?_
        refine lm_iload C dL_goes_26 4 rfl rfl ?_
        refine lm_iconst C (v := (-1 : Int32)) dL_goes_28 (by decide) rfl ?_
        obtain ⟨b16, hF⟩ := lm_gie hF
        obtain ⟨σ15, eσ15, hF⟩ := lm_lte hF
        refine lm_iast C (w' := (lw6W z b σ15)) 4 rfl b16 dL_goes_29 (by rw [← eσ15]; rfl) rfl ?_
        refine lm_iinc C (lv' := [(0, .ref (b 0)), (1, .ref (b 3)), (2, .ref (b 4)), (4, .int x4), (5, .int (x5 + (1 : Int32)))]) (x5 + (1 : Int32)) dL_goes_30 4 rfl rfl (by decide) rfl [1, 2, 3, 4, 0] rfl rfl ?_
        refine lm_goto C (tgt := 13) dL_goes_33 (by decide) ?_
        exact ih σ15 x4 (x5 + (1 : Int32)) hF
  show lm_St p l e ({ frames := 1, cells := 0, slots := 0, locals := 24 }) s m_ args below meth c D (va_A (lw6W z b σ) s.heap.size) 6 0 0 (lm_End below D (some (.int r)) (lw6W z b σ) (lw6W z b σ') args s) false (lw6W z b σ) 0 [(0, .ref (b 0)), (1, .ref (b 3)), (2, .ref (b 4)), (3, .int x3)] []
  rw [F_L_goes] at hF
  refine lm_aload_n C dL_goes_0 rfl 1 rfl rfl ?_
  obtain ⟨r1, qr1, hF⟩ := lm_bde hF
  refine lm_callSR C (n := 1) (m_L_many D z zo l (lw_f1 (b 3)) (lw_f1 (σ 3)) r1 qr1) gL_goes_L_many rfl (by decide +kernel) ⟨Nat.le_of_ble_eq_true rfl, Nat.le_of_ble_eq_true rfl⟩ ⟨Nat.le_of_ble_eq_true rfl, Nat.le_of_ble_eq_true rfl⟩ (lw_hsub [3] rfl) rfl rfl (Nat.le_of_ble_eq_true rfl) dL_goes_1 (st' := [.int r1]) rfl rfl ?_
  refine lm_istore C (lv' := [(0, .ref (b 0)), (1, .ref (b 3)), (2, .ref (b 4)), (3, .int x3), (4, .int r1)]) dL_goes_4 (by decide) rfl [1, 2, 3, 4, 0] rfl rfl ?_
  refine lm_iload_n C dL_goes_6 rfl 3 rfl rfl ?_
  refine lm_if_ge C (tgt := 39) dL_goes_7 (by decide) rfl (fun c2 => ?_) (fun c2 => ?_)
  · have hF := lm_brt hF c2
    refine lm_aload_n C dL_goes_39 rfl 1 rfl rfl ?_
    refine lm_iload_n C dL_goes_40 rfl 3 rfl rfl ?_
    obtain ⟨τ3, qτ3, hF⟩ := lm_bde hF
    obtain ⟨σ4, eσ4, hF⟩ := lm_lte hF
    refine lm_callS C (n := 2) (w' := (lw6W z b σ4)) hA (m_L_out D z zo l (lw_f1 (b 3)) (lw_f1 (σ 3)) x3 τ3 qτ3) gL_goes_L_out rfl (by decide +kernel) ⟨Nat.le_of_ble_eq_true rfl, Nat.le_of_ble_eq_true rfl⟩ ⟨Nat.le_of_ble_eq_true rfl, Nat.le_of_ble_eq_true rfl⟩ (lw_pk_perm [3] rfl) (by rw [← eσ4]; exact (lw_pk_perm [3] rfl).symm) rfl rfl (Nat.le_of_ble_eq_true rfl) dL_goes_41 (st' := []) rfl rfl ?_
    refine lm_aload_n C dL_goes_44 rfl 2 rfl rfl ?_
    refine lm_iload_n C dL_goes_45 rfl 3 rfl rfl ?_
    obtain ⟨τ5, qτ5, hF⟩ := lm_bde hF
    obtain ⟨σ6, eσ6, hF⟩ := lm_lte hF
    refine lm_callS C (n := 2) (w' := (lw6W z b σ6)) hA (m_L_out D z zo l (lw_f1 (b 4)) (lw_f1 (σ4 4)) x3 τ5 qτ5) gL_goes_L_out rfl (by decide +kernel) ⟨Nat.le_of_ble_eq_true rfl, Nat.le_of_ble_eq_true rfl⟩ ⟨Nat.le_of_ble_eq_true rfl, Nat.le_of_ble_eq_true rfl⟩ (lw_pk_perm [4] rfl) (by rw [← eσ6]; exact (lw_pk_perm [4] rfl).symm) rfl rfl (Nat.le_of_ble_eq_true rfl) dL_goes_46 (st' := []) rfl rfl ?_
    refine lm_aload_n C dL_goes_49 rfl 0 rfl rfl ?_
    refine lm_bipush C (v := (13 : Int32)) dL_goes_50 (by decide) rfl ?_
    refine lm_dup2 C dL_goes_52 rfl rfl rfl ?_
    refine lm_iald C (v := (σ6 0 13)) 0 rfl (by unfold vp_in; decide) rfl dL_goes_53 rfl ?_
    refine lm_iload C dL_goes_54 4 rfl rfl ?_
    refine lm_aload_n C dL_goes_56 rfl 1 rfl rfl ?_
    obtain ⟨r7, qr7, hF⟩ := lm_bde hF
    refine lm_callSR C (n := 1) (m_L_many D z zo l (lw_f1 (b 3)) (lw_f1 (σ6 3)) r7 qr7) gL_goes_L_many rfl (by decide +kernel) ⟨Nat.le_of_ble_eq_true rfl, Nat.le_of_ble_eq_true rfl⟩ ⟨Nat.le_of_ble_eq_true rfl, Nat.le_of_ble_eq_true rfl⟩ (lw_hsub [3] rfl) rfl rfl (Nat.le_of_ble_eq_true rfl) dL_goes_57 (st' := [.int r7, .int r1, .int (σ6 0 13), .int (13 : Int32), .ref (b 0)]) rfl rfl ?_
    refine lm_isub C dL_goes_60 rfl rfl ?_
    refine lm_iadd C dL_goes_61 rfl rfl ?_
    obtain ⟨σ8, eσ8, hF⟩ := lm_lte hF
    refine lm_iast C (w' := (lw6W z b σ8)) 0 rfl (by unfold vp_in; decide) dL_goes_62 (by rw [← eσ8]; rfl) rfl ?_
    refine lm_iload C dL_goes_63 4 rfl rfl ?_
    refine lm_aload_n C dL_goes_65 rfl 1 rfl rfl ?_
    obtain ⟨r9, qr9, hF⟩ := lm_bde hF
    refine lm_callSR C (n := 1) (m_L_many D z zo l (lw_f1 (b 3)) (lw_f1 (σ8 3)) r9 qr9) gL_goes_L_many rfl (by decide +kernel) ⟨Nat.le_of_ble_eq_true rfl, Nat.le_of_ble_eq_true rfl⟩ ⟨Nat.le_of_ble_eq_true rfl, Nat.le_of_ble_eq_true rfl⟩ (lw_hsub [3] rfl) rfl rfl (Nat.le_of_ble_eq_true rfl) dL_goes_66 (st' := [.int r9, .int r1]) rfl rfl ?_
    refine lm_isub C dL_goes_69 rfl rfl ?_
    cases hF
    exact lm_iret C hr hk rfl rfl dL_goes_70
  · have hF := lm_brf hF c2
    refine lm_iconst C (v := (0 : Int32)) dL_goes_10 (by decide) rfl ?_
    refine lm_istore C (lv' := [(0, .ref (b 0)), (1, .ref (b 3)), (2, .ref (b 4)), (3, .int x3), (4, .int r1), (5, .int (0 : Int32))]) dL_goes_11 (by decide) rfl [1, 2, 3, 4, 5, 0] rfl rfl ?_
    refine lm_lvsub (lv' := [(0, .ref (b 0)), (1, .ref (b 3)), (2, .ref (b 4)), (4, .int r1), (5, .int (0 : Int32))]) [0, 1, 2, 4, 5] rfl ?_
    exact loop_13 1000 σ r1 (0 : Int32) hF
set_option maxRecDepth 100000 in
set_option maxHeartbeats 4000000 in
theorem m_L_kept (D : va_G) (z zo : ClassId) (l : Launch) (b : Nat → Nat) (σ : Hp) (x3 x4 : Int32)  (σ' : Hp) (hF : F_L_kept σ x3 x4 = some σ') : lm_C D z zo l yL_kept wsL_kept 2 49 [.ref (b 0), .ref (b 3), .ref (b 4), .int x3, .int x4] (lw6W z b σ) none (lw6W z b σ') := by
  refine lm_C.of (by decide) rfl (Nat.le_of_ble_eq_true rfl) (own := RL) rfl ?_
  intro p e s m_ args below meth c C hr hk hA
  show lm_St p l e ({ frames := 2, cells := 0, slots := 0, locals := 49 }) s m_ args below meth c D (va_A (lw6W z b σ) s.heap.size) 6 0 0 (lm_End below D none (lw6W z b σ) (lw6W z b σ') args s) false (lw6W z b σ) 0 [(0, .ref (b 0)), (1, .ref (b 3)), (2, .ref (b 4)), (3, .int x3), (4, .int x4)] []
  rw [F_L_kept] at hF
  refine lm_aload_n C dL_kept_0 rfl 0 rfl rfl ?_
  refine lm_iconst C (v := (2 : Int32)) dL_kept_1 (by decide) rfl ?_
  refine lm_iald C (v := (σ 0 2)) 0 rfl (by unfold vp_in; decide) rfl dL_kept_2 rfl ?_
  refine lm_iconst C (v := (2 : Int32)) dL_kept_3 (by decide) rfl ?_
  refine lm_icmp_ne C (tgt := 49) dL_kept_4 (by decide) rfl (fun c1 => ?_) (fun c1 => ?_)
  · have hF := lm_brt hF c1
    refine lm_aload_n C dL_kept_49 rfl 0 rfl rfl ?_
    refine lm_aload_n C dL_kept_50 rfl 1 rfl rfl ?_
    refine lm_aload_n C dL_kept_51 rfl 2 rfl rfl ?_
    refine lm_aload_n C dL_kept_52 rfl 0 rfl rfl ?_
    refine lm_iconst C (v := (2 : Int32)) dL_kept_53 (by decide) rfl ?_
    refine lm_iald C (v := (σ 0 2)) 0 rfl (by unfold vp_in; decide) rfl dL_kept_54 rfl ?_
    refine lm_iconst C (v := (1 : Int32)) dL_kept_55 (by decide) rfl ?_
    refine lm_icmp_ne C (tgt := 63) dL_kept_56 (by decide) rfl (fun c2 => ?_) (fun c2 => ?_)
    · have hF := lm_brt hF c2
      refine lm_iload_n C dL_kept_63 rfl 3 rfl rfl ?_
      obtain ⟨r4, σ3, qσ3, hF⟩ := lm_b2e hF
      refine lm_callS C (n := 4) (w' := (lw6W z b σ3)) hA (m_L_goes D z zo l b σ x3 r4 σ3 qσ3) gL_kept_L_goes rfl (by decide +kernel) ⟨Nat.le_of_ble_eq_true rfl, Nat.le_of_ble_eq_true rfl⟩ ⟨Nat.le_of_ble_eq_true rfl, Nat.le_of_ble_eq_true rfl⟩ lm_pr lm_pr' rfl rfl (Nat.le_of_ble_eq_true rfl) dL_kept_64 (st' := [.int r4]) rfl rfl ?_
      refine lm_istore C (lv' := [(0, .ref (b 0)), (1, .ref (b 3)), (2, .ref (b 4)), (3, .int x3), (4, .int x4), (5, .int r4)]) dL_kept_67 (by decide) rfl [1, 2, 3, 4, 5, 0] rfl rfl ?_
      refine lm_aload_n C dL_kept_69 rfl 0 rfl rfl ?_
      refine lm_iconst C (v := (2 : Int32)) dL_kept_70 (by decide) rfl ?_
      refine lm_iald C (v := (σ3 0 2)) 0 rfl (by unfold vp_in; decide) rfl dL_kept_71 rfl ?_
      refine lm_if_ne C (tgt := 86) dL_kept_72 (by decide) rfl (fun c5 => ?_) (fun c5 => ?_)
      · have hF := lm_brt hF c5
        refine lm_iload C dL_kept_86 5 rfl rfl ?_
        refine lm_istore C (lv' := [(0, .ref (b 0)), (1, .ref (b 3)), (2, .ref (b 4)), (3, .int x3), (4, .int x4), (5, .int r4)]) dL_kept_88 (by decide) rfl [1, 2, 3, 4, 5, 0] rfl rfl ?_
        cases hF
        exact lm_vret C hr hk rfl rfl dL_kept_90
      · have hF := lm_brf hF c5
        refine lm_aload_n C dL_kept_75 rfl 0 rfl rfl ?_
        refine lm_aload_n C dL_kept_76 rfl 1 rfl rfl ?_
        refine lm_aload_n C dL_kept_77 rfl 2 rfl rfl ?_
        refine lm_iload C dL_kept_78 4 rfl rfl ?_
        obtain ⟨r7, σ6, qσ6, hF⟩ := lm_b2e hF
        refine lm_callS C (n := 4) (w' := (lw6W z b σ6)) hA (m_L_goes D z zo l b σ3 x4 r7 σ6 qσ6) gL_kept_L_goes rfl (by decide +kernel) ⟨Nat.le_of_ble_eq_true rfl, Nat.le_of_ble_eq_true rfl⟩ ⟨Nat.le_of_ble_eq_true rfl, Nat.le_of_ble_eq_true rfl⟩ lm_pr lm_pr' rfl rfl (Nat.le_of_ble_eq_true rfl) dL_kept_80 (st' := [.int r7]) rfl rfl ?_
        refine lm_goto C (tgt := 88) dL_kept_83 (by decide) ?_
        refine lm_istore C (lv' := [(0, .ref (b 0)), (1, .ref (b 3)), (2, .ref (b 4)), (3, .int x3), (4, .int x4), (5, .int r7)]) dL_kept_88 (by decide) rfl [1, 2, 3, 4, 5, 0] rfl rfl ?_
        cases hF
        exact lm_vret C hr hk rfl rfl dL_kept_90
    · have hF := lm_brf hF c2
      refine lm_iconst C (v := (-1 : Int32)) dL_kept_59 (by decide) rfl ?_
      refine lm_goto C (tgt := 64) dL_kept_60 (by decide) ?_
      obtain ⟨r9, σ8, qσ8, hF⟩ := lm_b2e hF
      refine lm_callS C (n := 4) (w' := (lw6W z b σ8)) hA (m_L_goes D z zo l b σ (-1 : Int32) r9 σ8 qσ8) gL_kept_L_goes rfl (by decide +kernel) ⟨Nat.le_of_ble_eq_true rfl, Nat.le_of_ble_eq_true rfl⟩ ⟨Nat.le_of_ble_eq_true rfl, Nat.le_of_ble_eq_true rfl⟩ lm_pr lm_pr' rfl rfl (Nat.le_of_ble_eq_true rfl) dL_kept_64 (st' := [.int r9]) rfl rfl ?_
      refine lm_istore C (lv' := [(0, .ref (b 0)), (1, .ref (b 3)), (2, .ref (b 4)), (3, .int x3), (4, .int x4), (5, .int r9)]) dL_kept_67 (by decide) rfl [1, 2, 3, 4, 5, 0] rfl rfl ?_
      refine lm_aload_n C dL_kept_69 rfl 0 rfl rfl ?_
      refine lm_iconst C (v := (2 : Int32)) dL_kept_70 (by decide) rfl ?_
      refine lm_iald C (v := (σ8 0 2)) 0 rfl (by unfold vp_in; decide) rfl dL_kept_71 rfl ?_
      refine lm_if_ne C (tgt := 86) dL_kept_72 (by decide) rfl (fun c10 => ?_) (fun c10 => ?_)
      · have hF := lm_brt hF c10
        refine lm_iload C dL_kept_86 5 rfl rfl ?_
        refine lm_istore C (lv' := [(0, .ref (b 0)), (1, .ref (b 3)), (2, .ref (b 4)), (3, .int x3), (4, .int x4), (5, .int r9)]) dL_kept_88 (by decide) rfl [1, 2, 3, 4, 5, 0] rfl rfl ?_
        cases hF
        exact lm_vret C hr hk rfl rfl dL_kept_90
      · have hF := lm_brf hF c10
        refine lm_aload_n C dL_kept_75 rfl 0 rfl rfl ?_
        refine lm_aload_n C dL_kept_76 rfl 1 rfl rfl ?_
        refine lm_aload_n C dL_kept_77 rfl 2 rfl rfl ?_
        refine lm_iload C dL_kept_78 4 rfl rfl ?_
        obtain ⟨r12, σ11, qσ11, hF⟩ := lm_b2e hF
        refine lm_callS C (n := 4) (w' := (lw6W z b σ11)) hA (m_L_goes D z zo l b σ8 x4 r12 σ11 qσ11) gL_kept_L_goes rfl (by decide +kernel) ⟨Nat.le_of_ble_eq_true rfl, Nat.le_of_ble_eq_true rfl⟩ ⟨Nat.le_of_ble_eq_true rfl, Nat.le_of_ble_eq_true rfl⟩ lm_pr lm_pr' rfl rfl (Nat.le_of_ble_eq_true rfl) dL_kept_80 (st' := [.int r12]) rfl rfl ?_
        refine lm_goto C (tgt := 88) dL_kept_83 (by decide) ?_
        refine lm_istore C (lv' := [(0, .ref (b 0)), (1, .ref (b 3)), (2, .ref (b 4)), (3, .int x3), (4, .int x4), (5, .int r12)]) dL_kept_88 (by decide) rfl [1, 2, 3, 4, 5, 0] rfl rfl ?_
        cases hF
        exact lm_vret C hr hk rfl rfl dL_kept_90
  · have hF := lm_brf hF c1
    refine lm_aload_n C dL_kept_7 rfl 0 rfl rfl ?_
    refine lm_bipush C (v := (15 : Int32)) dL_kept_8 (by decide) rfl ?_
    refine lm_dup2 C dL_kept_10 rfl rfl rfl ?_
    refine lm_iald C (v := (σ 0 15)) 0 rfl (by unfold vp_in; decide) rfl dL_kept_11 rfl ?_
    refine lm_aload_n C dL_kept_12 rfl 1 rfl rfl ?_
    refine lm_iload_n C dL_kept_13 rfl 3 rfl rfl ?_
    obtain ⟨r13, qr13, hF⟩ := lm_bde hF
    refine lm_callSR C (n := 2) (m_L_has D z zo l (lw_f1 (b 3)) (lw_f1 (σ 3)) x3 r13 qr13) gL_kept_L_has rfl (by decide +kernel) ⟨Nat.le_of_ble_eq_true rfl, Nat.le_of_ble_eq_true rfl⟩ ⟨Nat.le_of_ble_eq_true rfl, Nat.le_of_ble_eq_true rfl⟩ (lw_hsub [3] rfl) rfl rfl (Nat.le_of_ble_eq_true rfl) dL_kept_14 (st' := [.int r13, .int (σ 0 15), .int (15 : Int32), .ref (b 0)]) rfl rfl ?_
    refine lm_if_eq C (tgt := 24) dL_kept_17 (by decide) rfl (fun c14 => ?_) (fun c14 => ?_)
    · have hF := lm_brt hF c14
      refine lm_iconst C (v := (0 : Int32)) dL_kept_24 (by decide) rfl ?_
      refine lm_iload_n C dL_kept_25 rfl 3 rfl rfl ?_
      refine lm_iload C dL_kept_26 4 rfl rfl ?_
      refine lm_icmp_eq C (tgt := 44) dL_kept_28 (by decide) rfl (fun c15 => ?_) (fun c15 => ?_)
      · have hF := lm_brt hF c15
        refine lm_iconst C (v := (0 : Int32)) dL_kept_44 (by decide) rfl ?_
        refine lm_iadd C (v := (0 : Int32)) dL_kept_45 (by decide) rfl ?_
        refine lm_iadd C dL_kept_46 rfl rfl ?_
        obtain ⟨σ16, eσ16, hF⟩ := lm_lte hF
        refine lm_iast C (w' := (lw6W z b σ16)) 0 rfl (by unfold vp_in; decide) dL_kept_47 (by rw [← eσ16]; rfl) rfl ?_
        cases hF
        exact lm_vret C hr hk rfl rfl dL_kept_48
      · have hF := lm_brf hF c15
        refine lm_aload_n C dL_kept_31 rfl 1 rfl rfl ?_
        refine lm_iload C dL_kept_32 4 rfl rfl ?_
        obtain ⟨r17, qr17, hF⟩ := lm_bde hF
        refine lm_callSR C (n := 2) (m_L_has D z zo l (lw_f1 (b 3)) (lw_f1 (σ 3)) x4 r17 qr17) gL_kept_L_has rfl (by decide +kernel) ⟨Nat.le_of_ble_eq_true rfl, Nat.le_of_ble_eq_true rfl⟩ ⟨Nat.le_of_ble_eq_true rfl, Nat.le_of_ble_eq_true rfl⟩ (lw_hsub [3] rfl) rfl rfl (Nat.le_of_ble_eq_true rfl) dL_kept_34 (st' := [.int r17, .int (0 : Int32), .int (σ 0 15), .int (15 : Int32), .ref (b 0)]) rfl rfl ?_
        refine lm_if_eq C (tgt := 44) dL_kept_37 (by decide) rfl (fun c18 => ?_) (fun c18 => ?_)
        · have hF := lm_brt hF c18
          refine lm_iconst C (v := (0 : Int32)) dL_kept_44 (by decide) rfl ?_
          refine lm_iadd C (v := (0 : Int32)) dL_kept_45 (by decide) rfl ?_
          refine lm_iadd C dL_kept_46 rfl rfl ?_
          obtain ⟨σ19, eσ19, hF⟩ := lm_lte hF
          refine lm_iast C (w' := (lw6W z b σ19)) 0 rfl (by unfold vp_in; decide) dL_kept_47 (by rw [← eσ19]; rfl) rfl ?_
          cases hF
          exact lm_vret C hr hk rfl rfl dL_kept_48
        · have hF := lm_brf hF c18
          refine lm_iconst C (v := (1 : Int32)) dL_kept_40 (by decide) rfl ?_
          refine lm_goto C (tgt := 45) dL_kept_41 (by decide) ?_
          refine lm_iadd C (v := (1 : Int32)) dL_kept_45 (by decide) rfl ?_
          refine lm_iadd C dL_kept_46 rfl rfl ?_
          obtain ⟨σ20, eσ20, hF⟩ := lm_lte hF
          refine lm_iast C (w' := (lw6W z b σ20)) 0 rfl (by unfold vp_in; decide) dL_kept_47 (by rw [← eσ20]; rfl) rfl ?_
          cases hF
          exact lm_vret C hr hk rfl rfl dL_kept_48
    · have hF := lm_brf hF c14
      refine lm_iconst C (v := (1 : Int32)) dL_kept_20 (by decide) rfl ?_
      refine lm_goto C (tgt := 25) dL_kept_21 (by decide) ?_
      refine lm_iload_n C dL_kept_25 rfl 3 rfl rfl ?_
      refine lm_iload C dL_kept_26 4 rfl rfl ?_
      refine lm_icmp_eq C (tgt := 44) dL_kept_28 (by decide) rfl (fun c21 => ?_) (fun c21 => ?_)
      · have hF := lm_brt hF c21
        refine lm_iconst C (v := (0 : Int32)) dL_kept_44 (by decide) rfl ?_
        refine lm_iadd C (v := (1 : Int32)) dL_kept_45 (by decide) rfl ?_
        refine lm_iadd C dL_kept_46 rfl rfl ?_
        obtain ⟨σ22, eσ22, hF⟩ := lm_lte hF
        refine lm_iast C (w' := (lw6W z b σ22)) 0 rfl (by unfold vp_in; decide) dL_kept_47 (by rw [← eσ22]; rfl) rfl ?_
        cases hF
        exact lm_vret C hr hk rfl rfl dL_kept_48
      · have hF := lm_brf hF c21
        refine lm_aload_n C dL_kept_31 rfl 1 rfl rfl ?_
        refine lm_iload C dL_kept_32 4 rfl rfl ?_
        obtain ⟨r23, qr23, hF⟩ := lm_bde hF
        refine lm_callSR C (n := 2) (m_L_has D z zo l (lw_f1 (b 3)) (lw_f1 (σ 3)) x4 r23 qr23) gL_kept_L_has rfl (by decide +kernel) ⟨Nat.le_of_ble_eq_true rfl, Nat.le_of_ble_eq_true rfl⟩ ⟨Nat.le_of_ble_eq_true rfl, Nat.le_of_ble_eq_true rfl⟩ (lw_hsub [3] rfl) rfl rfl (Nat.le_of_ble_eq_true rfl) dL_kept_34 (st' := [.int r23, .int (1 : Int32), .int (σ 0 15), .int (15 : Int32), .ref (b 0)]) rfl rfl ?_
        refine lm_if_eq C (tgt := 44) dL_kept_37 (by decide) rfl (fun c24 => ?_) (fun c24 => ?_)
        · have hF := lm_brt hF c24
          refine lm_iconst C (v := (0 : Int32)) dL_kept_44 (by decide) rfl ?_
          refine lm_iadd C (v := (1 : Int32)) dL_kept_45 (by decide) rfl ?_
          refine lm_iadd C dL_kept_46 rfl rfl ?_
          obtain ⟨σ25, eσ25, hF⟩ := lm_lte hF
          refine lm_iast C (w' := (lw6W z b σ25)) 0 rfl (by unfold vp_in; decide) dL_kept_47 (by rw [← eσ25]; rfl) rfl ?_
          cases hF
          exact lm_vret C hr hk rfl rfl dL_kept_48
        · have hF := lm_brf hF c24
          refine lm_iconst C (v := (1 : Int32)) dL_kept_40 (by decide) rfl ?_
          refine lm_goto C (tgt := 45) dL_kept_41 (by decide) ?_
          refine lm_iadd C (v := (2 : Int32)) dL_kept_45 (by decide) rfl ?_
          refine lm_iadd C dL_kept_46 rfl rfl ?_
          obtain ⟨σ26, eσ26, hF⟩ := lm_lte hF
          refine lm_iast C (w' := (lw6W z b σ26)) 0 rfl (by unfold vp_in; decide) dL_kept_47 (by rw [← eσ26]; rfl) rfl ?_
          cases hF
          exact lm_vret C hr hk rfl rfl dL_kept_48
set_option maxRecDepth 100000 in
set_option maxHeartbeats 4000000 in
theorem m_L_look (D : va_G) (z zo : ClassId) (l : Launch) (b : Nat → Nat) (σ : Hp) (x5 : Int32) (r : Int32) (σ' : Hp) (hF : F_L_look σ x5 = some (r, σ')) : lm_C D z zo l yL_look wsL_look 3 77 [.ref (b 0), .ref (b 1), .ref (b 3), .ref (b 4), .ref (b 5), .int x5] (lw6W z b σ) (some (.int r)) (lw6W z b σ') := by
  refine lm_C.of (by decide) rfl (Nat.le_of_ble_eq_true rfl) (own := RL) rfl ?_
  intro p e s m_ args below meth c C hr hk hA
  show lm_St p l e ({ frames := 3, cells := 0, slots := 0, locals := 77 }) s m_ args below meth c D (va_A (lw6W z b σ) s.heap.size) 7 0 0 (lm_End below D (some (.int r)) (lw6W z b σ) (lw6W z b σ') args s) false (lw6W z b σ) 0 [(0, .ref (b 0)), (1, .ref (b 1)), (2, .ref (b 3)), (3, .ref (b 4)), (4, .ref (b 5)), (5, .int x5)] []
  rw [F_L_look] at hF
  refine lm_aload_n C dL_look_0 rfl 2 rfl rfl ?_
  refine lm_iload C dL_look_1 5 rfl rfl ?_
  obtain ⟨r1, qr1, hF⟩ := lm_bde hF
  refine lm_callSR C (n := 2) (m_L_has D z zo l (lw_f1 (b 3)) (lw_f1 (σ 3)) x5 r1 qr1) gL_look_L_has rfl (by decide +kernel) ⟨Nat.le_of_ble_eq_true rfl, Nat.le_of_ble_eq_true rfl⟩ ⟨Nat.le_of_ble_eq_true rfl, Nat.le_of_ble_eq_true rfl⟩ (lw_hsub [3] rfl) rfl rfl (Nat.le_of_ble_eq_true rfl) dL_look_3 (st' := [.int r1]) rfl rfl ?_
  refine lm_if_eq C (tgt := 42) dL_look_6 (by decide) rfl (fun c2 => ?_) (fun c2 => ?_)
  · have hF := lm_brt hF c2
    refine lm_aload_n C dL_look_42 rfl 0 rfl rfl ?_
    refine lm_bipush C (v := (10 : Int32)) dL_look_43 (by decide) rfl ?_
    refine lm_dup2 C dL_look_45 rfl rfl rfl ?_
    refine lm_iald C (v := (σ 0 10)) 0 rfl (by unfold vp_in; decide) rfl dL_look_46 rfl ?_
    refine lm_iconst C (v := (1 : Int32)) dL_look_47 (by decide) rfl ?_
    refine lm_iadd C dL_look_48 rfl rfl ?_
    obtain ⟨σ3, eσ3, hF⟩ := lm_lte hF
    refine lm_iast C (w' := (lw6W z b σ3)) 0 rfl (by unfold vp_in; decide) dL_look_49 (by rw [← eσ3]; rfl) rfl ?_
    refine lm_aload_n C dL_look_50 rfl 0 rfl rfl ?_
    refine lm_aload_n C dL_look_51 rfl 1 rfl rfl ?_
    refine lm_iload C dL_look_52 5 rfl rfl ?_
    refine lm_iconst C (v := (0 : Int32)) dL_look_54 (by decide) rfl ?_
    obtain ⟨r4, qr4, hF⟩ := lm_bde hF
    refine lm_callSR C (n := 4) (m_L_weight D z zo l b σ3 x5 (0 : Int32) r4 qr4) gL_look_L_weight rfl (by decide +kernel) ⟨Nat.le_of_ble_eq_true rfl, Nat.le_of_ble_eq_true rfl⟩ ⟨Nat.le_of_ble_eq_true rfl, Nat.le_of_ble_eq_true rfl⟩ (fun _ h => h) rfl rfl (Nat.le_of_ble_eq_true rfl) dL_look_55 (st' := [.int r4]) rfl rfl ?_
    refine lm_aload_n C dL_look_58 rfl 0 rfl rfl ?_
    refine lm_iconst C (v := (0 : Int32)) dL_look_59 (by decide) rfl ?_
    refine lm_iald C (v := (σ3 0 0)) 0 rfl (by unfold vp_in; decide) rfl dL_look_60 rfl ?_
    refine lm_icmp_le C (tgt := 78) dL_look_61 (by decide) rfl (fun c5 => ?_) (fun c5 => ?_)
    · have hF := lm_brt hF c5
      refine lm_aload_n C dL_look_78 rfl 2 rfl rfl ?_
      refine lm_aload_n C dL_look_79 rfl 2 rfl rfl ?_
      obtain ⟨r6, qr6, hF⟩ := lm_bde hF
      refine lm_callSR C (n := 1) (m_L_many D z zo l (lw_f1 (b 3)) (lw_f1 (σ3 3)) r6 qr6) gL_look_L_many rfl (by decide +kernel) ⟨Nat.le_of_ble_eq_true rfl, Nat.le_of_ble_eq_true rfl⟩ ⟨Nat.le_of_ble_eq_true rfl, Nat.le_of_ble_eq_true rfl⟩ (lw_hsub [3] rfl) rfl rfl (Nat.le_of_ble_eq_true rfl) dL_look_80 (st' := [.int r6, .ref (b 3)]) rfl rfl ?_
      refine lm_iload C dL_look_83 5 rfl rfl ?_
      obtain ⟨b16, hF⟩ := lm_gie hF
      obtain ⟨σ7, eσ7, hF⟩ := lm_lte hF
      refine lm_iast C (w' := (lw6W z b σ7)) 3 rfl b16 dL_look_85 (by rw [← eσ7]; rfl) rfl ?_
      refine lm_aload_n C dL_look_86 rfl 3 rfl rfl ?_
      refine lm_aload_n C dL_look_87 rfl 3 rfl rfl ?_
      obtain ⟨r8, qr8, hF⟩ := lm_bde hF
      refine lm_callSR C (n := 1) (m_L_many D z zo l (lw_f1 (b 4)) (lw_f1 (σ7 4)) r8 qr8) gL_look_L_many rfl (by decide +kernel) ⟨Nat.le_of_ble_eq_true rfl, Nat.le_of_ble_eq_true rfl⟩ ⟨Nat.le_of_ble_eq_true rfl, Nat.le_of_ble_eq_true rfl⟩ (lw_hsub [4] rfl) rfl rfl (Nat.le_of_ble_eq_true rfl) dL_look_88 (st' := [.int r8, .ref (b 4)]) rfl rfl ?_
      refine lm_iload C dL_look_91 5 rfl rfl ?_
      obtain ⟨b15, hF⟩ := lm_gie hF
      obtain ⟨σ9, eσ9, hF⟩ := lm_lte hF
      refine lm_iast C (w' := (lw6W z b σ9)) 4 rfl b15 dL_look_93 (by rw [← eσ9]; rfl) rfl ?_
      refine lm_aload C dL_look_94 4 rfl rfl ?_
      refine lm_iload C dL_look_96 5 rfl rfl ?_
      refine lm_iconst C (v := (1 : Int32)) dL_look_98 (by decide) rfl ?_
      obtain ⟨b14, hF⟩ := lm_gie hF
      obtain ⟨σ10, eσ10, hF⟩ := lm_lte hF
      refine lm_iast C (w' := (lw6W z b σ10)) 5 rfl b14 dL_look_99 (by rw [← eσ10]; rfl) rfl ?_
      refine lm_aload_n C dL_look_100 rfl 0 rfl rfl ?_
      refine lm_aload_n C dL_look_101 rfl 1 rfl rfl ?_
      refine lm_aload_n C dL_look_102 rfl 2 rfl rfl ?_
      refine lm_aload_n C dL_look_103 rfl 3 rfl rfl ?_
      refine lm_aload C dL_look_104 4 rfl rfl ?_
      refine lm_iload C dL_look_106 5 rfl rfl ?_
      obtain ⟨r12, σ11, qσ11, hF⟩ := lm_b2e hF
      refine lm_callS C (n := 6) (w' := (lw6W z b σ11)) hA (m_L_room D z zo l b σ10 x5 r12 σ11 qσ11) gL_look_L_room rfl (by decide +kernel) ⟨Nat.le_of_ble_eq_true rfl, Nat.le_of_ble_eq_true rfl⟩ ⟨Nat.le_of_ble_eq_true rfl, Nat.le_of_ble_eq_true rfl⟩ lm_pr lm_pr' rfl rfl (Nat.le_of_ble_eq_true rfl) dL_look_108 (st' := [.int r12]) rfl rfl ?_
      refine lm_istore C (lv' := [(0, .ref (b 0)), (1, .ref (b 1)), (2, .ref (b 3)), (3, .ref (b 4)), (4, .ref (b 5)), (5, .int x5), (6, .int r12)]) dL_look_111 (by decide) rfl [1, 2, 3, 4, 5, 6, 0] rfl rfl ?_
      refine lm_iconst C (v := (2 : Int32)) dL_look_113 (by decide) rfl ?_
      refine lm_aload_n C dL_look_114 rfl 0 rfl rfl ?_
      refine lm_iconst C (v := (5 : Int32)) dL_look_115 (by decide) rfl ?_
      refine lm_iald C (v := (σ11 0 5)) 0 rfl (by unfold vp_in; decide) rfl dL_look_116 rfl ?_
      refine lm_iadd C dL_look_117 rfl rfl ?_
      refine lm_iload C dL_look_118 6 rfl rfl ?_
      refine lm_if_ge C (tgt := 127) dL_look_120 (by decide) rfl (fun c13 => ?_) (fun c13 => ?_)
      · have hF := lm_brt hF c13
        refine lm_iconst C (v := (0 : Int32)) dL_look_127 (by decide) rfl ?_
        refine lm_iadd C dL_look_128 rfl rfl ?_
        cases hF
        exact lm_iret C hr hk rfl rfl dL_look_129
      · have hF := lm_brf hF c13
        refine lm_iconst C (v := (1 : Int32)) dL_look_123 (by decide) rfl ?_
        refine lm_goto C (tgt := 128) dL_look_124 (by decide) ?_
        refine lm_iadd C dL_look_128 rfl rfl ?_
        cases hF
        exact lm_iret C hr hk rfl rfl dL_look_129
    · have hF := lm_brf hF c5
      refine lm_aload_n C dL_look_64 rfl 0 rfl rfl ?_
      refine lm_bipush C (v := (14 : Int32)) dL_look_65 (by decide) rfl ?_
      refine lm_dup2 C dL_look_67 rfl rfl rfl ?_
      refine lm_iald C (v := (σ3 0 14)) 0 rfl (by unfold vp_in; decide) rfl dL_look_68 rfl ?_
      refine lm_iconst C (v := (1 : Int32)) dL_look_69 (by decide) rfl ?_
      refine lm_iadd C dL_look_70 rfl rfl ?_
      obtain ⟨σ17, eσ17, hF⟩ := lm_lte hF
      refine lm_iast C (w' := (lw6W z b σ17)) 0 rfl (by unfold vp_in; decide) dL_look_71 (by rw [← eσ17]; rfl) rfl ?_
      refine lm_iconst C (v := (2 : Int32)) dL_look_72 (by decide) rfl ?_
      refine lm_aload_n C dL_look_73 rfl 0 rfl rfl ?_
      refine lm_iconst C (v := (5 : Int32)) dL_look_74 (by decide) rfl ?_
      refine lm_iald C (v := (σ17 0 5)) 0 rfl (by unfold vp_in; decide) rfl dL_look_75 rfl ?_
      refine lm_iadd C dL_look_76 rfl rfl ?_
      cases hF
      exact lm_iret C hr hk rfl rfl dL_look_77
  · have hF := lm_brf hF c2
    refine lm_aload_n C dL_look_9 rfl 3 rfl rfl ?_
    refine lm_iload C dL_look_10 5 rfl rfl ?_
    obtain ⟨τ18, qτ18, hF⟩ := lm_bde hF
    obtain ⟨σ19, eσ19, hF⟩ := lm_lte hF
    refine lm_callS C (n := 2) (w' := (lw6W z b σ19)) hA (m_L_out D z zo l (lw_f1 (b 4)) (lw_f1 (σ 4)) x5 τ18 qτ18) gL_look_L_out rfl (by decide +kernel) ⟨Nat.le_of_ble_eq_true rfl, Nat.le_of_ble_eq_true rfl⟩ ⟨Nat.le_of_ble_eq_true rfl, Nat.le_of_ble_eq_true rfl⟩ (lw_pk_perm [4] rfl) (by rw [← eσ19]; exact (lw_pk_perm [4] rfl).symm) rfl rfl (Nat.le_of_ble_eq_true rfl) dL_look_12 (st' := []) rfl rfl ?_
    refine lm_aload_n C dL_look_15 rfl 3 rfl rfl ?_
    refine lm_aload_n C dL_look_16 rfl 3 rfl rfl ?_
    obtain ⟨r20, qr20, hF⟩ := lm_bde hF
    refine lm_callSR C (n := 1) (m_L_many D z zo l (lw_f1 (b 4)) (lw_f1 (σ19 4)) r20 qr20) gL_look_L_many rfl (by decide +kernel) ⟨Nat.le_of_ble_eq_true rfl, Nat.le_of_ble_eq_true rfl⟩ ⟨Nat.le_of_ble_eq_true rfl, Nat.le_of_ble_eq_true rfl⟩ (lw_hsub [4] rfl) rfl rfl (Nat.le_of_ble_eq_true rfl) dL_look_17 (st' := [.int r20, .ref (b 4)]) rfl rfl ?_
    refine lm_iload C dL_look_20 5 rfl rfl ?_
    obtain ⟨b26, hF⟩ := lm_gie hF
    obtain ⟨σ21, eσ21, hF⟩ := lm_lte hF
    refine lm_iast C (w' := (lw6W z b σ21)) 4 rfl b26 dL_look_22 (by rw [← eσ21]; rfl) rfl ?_
    refine lm_aload C dL_look_23 4 rfl rfl ?_
    refine lm_iload C dL_look_25 5 rfl rfl ?_
    refine lm_dup2 C dL_look_27 rfl rfl rfl ?_
    obtain ⟨b22, hF⟩ := lm_gie hF
    refine lm_iald C (v := (σ21 5 x5.toNatClampNeg)) 5 rfl b22 rfl dL_look_28 rfl ?_
    refine lm_iconst C (v := (1 : Int32)) dL_look_29 (by decide) rfl ?_
    refine lm_iadd C dL_look_30 rfl rfl ?_
    obtain ⟨b25, hF⟩ := lm_gie hF
    obtain ⟨σ23, eσ23, hF⟩ := lm_lte hF
    refine lm_iast C (w' := (lw6W z b σ23)) 5 rfl b25 dL_look_31 (by rw [← eσ23]; rfl) rfl ?_
    refine lm_aload_n C dL_look_32 rfl 0 rfl rfl ?_
    refine lm_bipush C (v := (9 : Int32)) dL_look_33 (by decide) rfl ?_
    refine lm_dup2 C dL_look_35 rfl rfl rfl ?_
    refine lm_iald C (v := (σ23 0 9)) 0 rfl (by unfold vp_in; decide) rfl dL_look_36 rfl ?_
    refine lm_iconst C (v := (1 : Int32)) dL_look_37 (by decide) rfl ?_
    refine lm_iadd C dL_look_38 rfl rfl ?_
    obtain ⟨σ24, eσ24, hF⟩ := lm_lte hF
    refine lm_iast C (w' := (lw6W z b σ24)) 0 rfl (by unfold vp_in; decide) dL_look_39 (by rw [← eσ24]; rfl) rfl ?_
    refine lm_iconst C (v := (1 : Int32)) dL_look_40 (by decide) rfl ?_
    cases hF
    exact lm_iret C hr hk rfl rfl dL_look_41
set_option maxRecDepth 100000 in
set_option maxHeartbeats 4000000 in
theorem m_L_steps (D : va_G) (z zo : ClassId) (l : Launch) (b : Nat → Nat) (σ : Hp) (x6 : Int32) (r : Int32) (σ' : Hp) (hF : F_L_steps σ x6 = some (r, σ')) : lm_C D z zo l yL_steps wsL_steps 4 103 [.ref (b 0), .ref (b 1), .ref (b 2), .ref (b 3), .ref (b 4), .ref (b 5), .int x6] (lw6W z b σ) (some (.int r)) (lw6W z b σ') := by
  refine lm_C.of (by decide) rfl (Nat.le_of_ble_eq_true rfl) (own := RL) rfl ?_
  intro p e s m_ args below meth c C hr hk hA
  have loop_6 : ∀ (n : Nat) (σx : Hp) (x6 : Int32) (x7 : Int32) (x8 : Int32), F_L_steps_L6 n σx x6 x7 x8 = some (r, σ') → lm_St p l e ({ frames := 4, cells := 0, slots := 0, locals := 103 }) s m_ args below meth c D (va_A (lw6W z b σ) s.heap.size) 10 0 0 (lm_End below D (some (.int r)) (lw6W z b σ) (lw6W z b σ') args s) false (lw6W z b σx) 6 [(0, .ref (b 0)), (1, .ref (b 1)), (2, .ref (b 2)), (3, .ref (b 3)), (4, .ref (b 4)), (5, .ref (b 5)), (6, .int x6), (7, .int x7), (8, .int x8)] [] := by
    intro n
    induction n with
    | zero => intro σx x6 x7 x8 hF; cases (show (none : Option _) = some _ from hF)
    | succ n ih =>
      intro σx x6 x7 x8 hF
      rw [F_L_steps_L6] at hF
      refine lm_iload C dL_steps_6 8 rfl rfl ?_
      refine lm_iload C dL_steps_8 6 rfl rfl ?_
      refine lm_icmp_ge C (tgt := 91) dL_steps_10 (by decide) rfl (fun c1 => ?_) (fun c1 => ?_)
      · have hF := lm_brt hF c1
        refine lm_aload_n C dL_steps_91 rfl 0 rfl rfl ?_
        refine lm_bipush C (v := (11 : Int32)) dL_steps_92 (by decide) rfl ?_
        refine lm_dup2 C dL_steps_94 rfl rfl rfl ?_
        refine lm_iald C (v := (σx 0 11)) 0 rfl (by unfold vp_in; decide) rfl dL_steps_95 rfl ?_
        refine lm_iload C dL_steps_96 7 rfl rfl ?_
        refine lm_iadd C dL_steps_98 rfl rfl ?_
        obtain ⟨σ2, eσ2, hF⟩ := lm_lte hF
        refine lm_iast C (w' := (lw6W z b σ2)) 0 rfl (by unfold vp_in; decide) dL_steps_99 (by rw [← eσ2]; rfl) rfl ?_
        refine lm_iload C dL_steps_100 7 rfl rfl ?_
        cases hF
        exact lm_iret C hr hk rfl rfl dL_steps_102
      · have hF := lm_brf hF c1
        refine lm_aload_n C dL_steps_13 rfl 0 rfl rfl ?_
        refine lm_bipush C (v := (7 : Int32)) dL_steps_14 (by decide) rfl ?_
        refine lm_iald C (v := (σx 0 7)) 0 rfl (by unfold vp_in; decide) rfl dL_steps_16 rfl ?_
        refine lm_aload_n C dL_steps_17 rfl 0 rfl rfl ?_
        refine lm_bipush C (v := (6 : Int32)) dL_steps_18 (by decide) rfl ?_
        refine lm_iald C (v := (σx 0 6)) 0 rfl (by unfold vp_in; decide) rfl dL_steps_20 rfl ?_
        refine lm_icmp_ge C (tgt := 91) dL_steps_21 (by decide) rfl (fun c3 => ?_) (fun c3 => ?_)
        · have hF := lm_brt hF c3
          refine lm_aload_n C dL_steps_91 rfl 0 rfl rfl ?_
          refine lm_bipush C (v := (11 : Int32)) dL_steps_92 (by decide) rfl ?_
          refine lm_dup2 C dL_steps_94 rfl rfl rfl ?_
          refine lm_iald C (v := (σx 0 11)) 0 rfl (by unfold vp_in; decide) rfl dL_steps_95 rfl ?_
          refine lm_iload C dL_steps_96 7 rfl rfl ?_
          refine lm_iadd C dL_steps_98 rfl rfl ?_
          obtain ⟨σ4, eσ4, hF⟩ := lm_lte hF
          refine lm_iast C (w' := (lw6W z b σ4)) 0 rfl (by unfold vp_in; decide) dL_steps_99 (by rw [← eσ4]; rfl) rfl ?_
          refine lm_iload C dL_steps_100 7 rfl rfl ?_
          cases hF
          exact lm_iret C hr hk rfl rfl dL_steps_102
        · have hF := lm_brf hF c3
          refine lm_aload_n C dL_steps_24 rfl 2 rfl rfl ?_
          refine lm_iconst C (v := (2 : Int32)) dL_steps_25 (by decide) rfl ?_
          refine lm_aload_n C dL_steps_26 rfl 0 rfl rfl ?_
          refine lm_bipush C (v := (7 : Int32)) dL_steps_27 (by decide) rfl ?_
          refine lm_iald C (v := (σx 0 7)) 0 rfl (by unfold vp_in; decide) rfl dL_steps_29 rfl ?_
          refine lm_imul C dL_steps_30 rfl rfl ?_
          obtain ⟨b5, hF⟩ := lm_gie hF
          refine lm_iald C (v := (σx 2 (((2 : Int32) * (σx 0 7))).toNatClampNeg)) 2 rfl b5 rfl dL_steps_31 rfl ?_
          obtain ⟨t6, et6, hF⟩ := lm_lte hF
          rw [et6]
          refine lm_istore C (lv' := [(0, .ref (b 0)), (1, .ref (b 1)), (2, .ref (b 2)), (3, .ref (b 3)), (4, .ref (b 4)), (5, .ref (b 5)), (6, .int x6), (7, .int x7), (8, .int x8), (9, .int t6)]) dL_steps_32 (by decide) rfl [1, 2, 3, 4, 5, 6, 7, 8, 9, 0] rfl rfl ?_
          refine lm_iload C dL_steps_34 7 rfl rfl ?_
          refine lm_aload_n C dL_steps_36 rfl 0 rfl rfl ?_
          refine lm_aload_n C dL_steps_37 rfl 1 rfl rfl ?_
          refine lm_aload_n C dL_steps_38 rfl 3 rfl rfl ?_
          refine lm_aload C dL_steps_39 4 rfl rfl ?_
          refine lm_aload C dL_steps_41 5 rfl rfl ?_
          refine lm_iload C dL_steps_43 9 rfl rfl ?_
          obtain ⟨r8, σ7, qσ7, hF⟩ := lm_b2e hF
          refine lm_callS C (n := 6) (w' := (lw6W z b σ7)) hA (m_L_look D z zo l b σx t6 r8 σ7 qσ7) gL_steps_L_look rfl (by decide +kernel) ⟨Nat.le_of_ble_eq_true rfl, Nat.le_of_ble_eq_true rfl⟩ ⟨Nat.le_of_ble_eq_true rfl, Nat.le_of_ble_eq_true rfl⟩ lm_pr lm_pr' rfl rfl (Nat.le_of_ble_eq_true rfl) dL_steps_45 (st' := [.int r8, .int x7]) rfl rfl ?_
          refine lm_iadd C dL_steps_48 rfl rfl ?_
          refine lm_istore C (lv' := [(0, .ref (b 0)), (1, .ref (b 1)), (2, .ref (b 2)), (3, .ref (b 3)), (4, .ref (b 4)), (5, .ref (b 5)), (6, .int x6), (7, .int (x7 + r8)), (8, .int x8), (9, .int t6)]) dL_steps_49 (by decide) rfl [1, 2, 3, 4, 5, 6, 7, 0, 8, 9] rfl rfl ?_
          refine lm_aload_n C dL_steps_51 rfl 0 rfl rfl ?_
          refine lm_bipush C (v := (8 : Int32)) dL_steps_52 (by decide) rfl ?_
          refine lm_dup2 C dL_steps_54 rfl rfl rfl ?_
          refine lm_iald C (v := (σ7 0 8)) 0 rfl (by unfold vp_in; decide) rfl dL_steps_55 rfl ?_
          refine lm_aload_n C dL_steps_56 rfl 2 rfl rfl ?_
          refine lm_iconst C (v := (2 : Int32)) dL_steps_57 (by decide) rfl ?_
          refine lm_aload_n C dL_steps_58 rfl 0 rfl rfl ?_
          refine lm_bipush C (v := (7 : Int32)) dL_steps_59 (by decide) rfl ?_
          refine lm_iald C (v := (σ7 0 7)) 0 rfl (by unfold vp_in; decide) rfl dL_steps_61 rfl ?_
          refine lm_imul C dL_steps_62 rfl rfl ?_
          refine lm_iconst C (v := (1 : Int32)) dL_steps_63 (by decide) rfl ?_
          refine lm_iadd C dL_steps_64 rfl rfl ?_
          obtain ⟨b9, hF⟩ := lm_gie hF
          refine lm_iald C (v := (σ7 2 ((((2 : Int32) * (σ7 0 7)) + (1 : Int32))).toNatClampNeg)) 2 rfl b9 rfl dL_steps_65 rfl ?_
          refine lm_aload_n C dL_steps_66 rfl 0 rfl rfl ?_
          refine lm_aload_n C dL_steps_67 rfl 1 rfl rfl ?_
          refine lm_iload C dL_steps_68 9 rfl rfl ?_
          refine lm_iconst C (v := (1 : Int32)) dL_steps_70 (by decide) rfl ?_
          obtain ⟨r10, qr10, hF⟩ := lm_bde hF
          refine lm_callSR C (n := 4) (m_L_weight D z zo l b σ7 t6 (1 : Int32) r10 qr10) gL_steps_L_weight rfl (by decide +kernel) ⟨Nat.le_of_ble_eq_true rfl, Nat.le_of_ble_eq_true rfl⟩ ⟨Nat.le_of_ble_eq_true rfl, Nat.le_of_ble_eq_true rfl⟩ (fun _ h => h) rfl rfl (Nat.le_of_ble_eq_true rfl) dL_steps_71 (st' := [.int r10, .int (σ7 2 ((((2 : Int32) * (σ7 0 7)) + (1 : Int32))).toNatClampNeg), .int (σ7 0 8), .int (8 : Int32), .ref (b 0)]) rfl rfl ?_
          refine lm_imul C dL_steps_74 rfl rfl ?_
          refine lm_iadd C dL_steps_75 rfl rfl ?_
          obtain ⟨σ11, eσ11, hF⟩ := lm_lte hF
          refine lm_iast C (w' := (lw6W z b σ11)) 0 rfl (by unfold vp_in; decide) dL_steps_76 (by rw [← eσ11]; rfl) rfl ?_
          refine lm_aload_n C dL_steps_77 rfl 0 rfl rfl ?_
          refine lm_bipush C (v := (7 : Int32)) dL_steps_78 (by decide) rfl ?_
          refine lm_dup2 C dL_steps_80 rfl rfl rfl ?_
          refine lm_iald C (v := (σ11 0 7)) 0 rfl (by unfold vp_in; decide) rfl dL_steps_81 rfl ?_
          refine lm_iconst C (v := (1 : Int32)) dL_steps_82 (by decide) rfl ?_
          refine lm_iadd C dL_steps_83 rfl rfl ?_
          obtain ⟨σ12, eσ12, hF⟩ := lm_lte hF
          refine lm_iast C (w' := (lw6W z b σ12)) 0 rfl (by unfold vp_in; decide) dL_steps_84 (by rw [← eσ12]; rfl) rfl ?_
          refine lm_iinc C (lv' := [(0, .ref (b 0)), (1, .ref (b 1)), (2, .ref (b 2)), (3, .ref (b 3)), (4, .ref (b 4)), (5, .ref (b 5)), (6, .int x6), (7, .int (x7 + r8)), (8, .int (x8 + (1 : Int32))), (9, .int t6)]) (x8 + (1 : Int32)) dL_steps_85 8 rfl rfl (by decide) rfl [1, 2, 3, 4, 5, 6, 7, 8, 0, 9] rfl rfl ?_
          refine lm_goto C (tgt := 6) dL_steps_88 (by decide) ?_
          refine lm_lvsub (lv' := [(0, .ref (b 0)), (1, .ref (b 1)), (2, .ref (b 2)), (3, .ref (b 3)), (4, .ref (b 4)), (5, .ref (b 5)), (6, .int x6), (7, .int (x7 + r8)), (8, .int (x8 + (1 : Int32)))]) [0, 1, 2, 3, 4, 5, 6, 7, 8] rfl ?_
          exact ih σ12 x6 (x7 + r8) (x8 + (1 : Int32)) hF
  show lm_St p l e ({ frames := 4, cells := 0, slots := 0, locals := 103 }) s m_ args below meth c D (va_A (lw6W z b σ) s.heap.size) 10 0 0 (lm_End below D (some (.int r)) (lw6W z b σ) (lw6W z b σ') args s) false (lw6W z b σ) 0 [(0, .ref (b 0)), (1, .ref (b 1)), (2, .ref (b 2)), (3, .ref (b 3)), (4, .ref (b 4)), (5, .ref (b 5)), (6, .int x6)] []
  rw [F_L_steps] at hF
  refine lm_iconst C (v := (0 : Int32)) dL_steps_0 (by decide) rfl ?_
  refine lm_istore C (lv' := [(0, .ref (b 0)), (1, .ref (b 1)), (2, .ref (b 2)), (3, .ref (b 3)), (4, .ref (b 4)), (5, .ref (b 5)), (6, .int x6), (7, .int (0 : Int32))]) dL_steps_1 (by decide) rfl [1, 2, 3, 4, 5, 6, 7, 0] rfl rfl ?_
  refine lm_iconst C (v := (0 : Int32)) dL_steps_3 (by decide) rfl ?_
  refine lm_istore C (lv' := [(0, .ref (b 0)), (1, .ref (b 1)), (2, .ref (b 2)), (3, .ref (b 3)), (4, .ref (b 4)), (5, .ref (b 5)), (6, .int x6), (7, .int (0 : Int32)), (8, .int (0 : Int32))]) dL_steps_4 (by decide) rfl [1, 2, 3, 4, 5, 6, 7, 8, 0] rfl rfl ?_
  exact loop_6 1000 σ x6 (0 : Int32) (0 : Int32) hF
