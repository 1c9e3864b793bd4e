set_option maxRecDepth 100000 in
set_option maxHeartbeats 4000000 in
theorem m_L_isRow (D : va_G) (z zo : ClassId) (l : Launch) (m : Nat → Nat) (a : Nat → Nat → Nat) (b : Nat → Nat) (h : Nat → Hp) (x6 x7 : Int32) (r : Int32) (h' : Nat → Hp) (hF : F_L_isRow h x6 x7 = some (r, h')) : lm_C D z zo l yL_isRow wsL_isRow 6 148 [.ref (m 0), .ref (b 0), .ref (b 1), .ref (b 2), .ref (b 3), .ref (b 4), .int x6, .int x7] (lwMW z zo m a b h) (some (.int r)) (lwMW z zo m a b h') := by
  refine lm_C.of (by decide) rfl (Nat.le_of_ble_eq_true rfl) (own := RL) rfl ?_
  intro p e s m_ args below meth c C hr hk hA
  show lm_St p l e ({ frames := 6, cells := 0, slots := 0, locals := 148 }) s m_ args below meth c D (va_A (lwMW z zo m a b h) s.heap.size) 11 0 0 (lm_End below D (some (.int r)) (lwMW z zo m a b h) (lwMW z zo m a b h') args s) false (lwMW z zo m a b h) 0 [(0, .ref (m 0)), (1, .ref (b 0)), (2, .ref (b 1)), (3, .ref (b 2)), (4, .ref (b 3)), (5, .ref (b 4)), (6, .int x6), (7, .int x7)] []
  rw [F_L_isRow] at hF
  refine lm_iload C dL_isRow_0 6 rfl rfl ?_
  refine lm_if_eq C (tgt := 11) dL_isRow_2 (by decide) rfl (fun c1 => ?_) (fun c1 => ?_)
  · have hF := lm_brt hF c1
    refine lm_aload_n C dL_isRow_11 rfl 1 rfl rfl ?_
    refine lm_bipush C (v := (6 : Int32)) dL_isRow_12 (by decide) rfl ?_
    refine lm_iald C (v := (h 9 0 6)) 141 rfl (by unfold vp_in; decide) rfl dL_isRow_14 rfl ?_
    refine lm_istore C (lv' := [(0, .ref (m 0)), (1, .ref (b 0)), (2, .ref (b 1)), (3, .ref (b 2)), (4, .ref (b 3)), (5, .ref (b 4)), (6, .int x6), (7, .int x7), (8, .int (h 9 0 6))]) dL_isRow_15 (by decide) rfl [1, 2, 3, 4, 5, 6, 7, 8, 0] rfl rfl ?_
    refine lm_iload C dL_isRow_17 7 rfl rfl ?_
    refine lm_iconst C (v := (3 : Int32)) dL_isRow_19 (by decide) rfl ?_
    refine lm_irem C dL_isRow_20 (by decide) rfl rfl ?_
    refine lm_if_ne C (tgt := 34) dL_isRow_21 (by decide) rfl (fun c2 => ?_) (fun c2 => ?_)
    · have hF := lm_brt hF c2
      refine lm_iload C dL_isRow_34 7 rfl rfl ?_
      refine lm_iconst C (v := (3 : Int32)) dL_isRow_36 (by decide) rfl ?_
      refine lm_idiv C dL_isRow_37 (by decide) rfl rfl ?_
      refine lm_iconst C (v := (4 : Int32)) dL_isRow_38 (by decide) rfl ?_
      refine lm_irem C dL_isRow_39 (by decide) rfl rfl ?_
      obtain ⟨t3, et3, hF⟩ := lm_lte hF
      rw [et3]
      refine lm_istore C (lv' := [(0, .ref (m 0)), (1, .ref (b 0)), (2, .ref (b 1)), (3, .ref (b 2)), (4, .ref (b 3)), (5, .ref (b 4)), (6, .int x6), (7, .int x7), (8, .int (h 9 0 6)), (9, .int t3)]) dL_isRow_40 (by decide) rfl [1, 2, 3, 4, 5, 6, 7, 8, 9, 0] rfl rfl ?_
      refine lm_iload C dL_isRow_42 7 rfl rfl ?_
      refine lm_bipush C (v := (30 : Int32)) dL_isRow_44 (by decide) rfl ?_
      refine lm_idiv C dL_isRow_46 (by decide) rfl rfl ?_
      refine lm_bipush C (v := (100 : Int32)) dL_isRow_47 (by decide) rfl ?_
      refine lm_irem C dL_isRow_49 (by decide) rfl rfl ?_
      obtain ⟨t4, et4, hF⟩ := lm_lte hF
      rw [et4]
      refine lm_istore C (lv' := [(0, .ref (m 0)), (1, .ref (b 0)), (2, .ref (b 1)), (3, .ref (b 2)), (4, .ref (b 3)), (5, .ref (b 4)), (6, .int x6), (7, .int x7), (8, .int (h 9 0 6)), (9, .int t3), (10, .int t4)]) dL_isRow_50 (by decide) rfl [1, 2, 3, 4, 5, 6, 7, 8, 9, 10, 0] rfl rfl ?_
      refine lm_iload C dL_isRow_52 8 rfl rfl ?_
      refine lm_bipush C (v := (20 : Int32)) dL_isRow_54 (by decide) rfl ?_
      refine lm_icmp_ne C (tgt := 80) dL_isRow_56 (by decide) rfl (fun c5 => ?_) (fun c5 => ?_)
      · have hF := lm_brt hF c5
        refine lm_iload C dL_isRow_80 6 rfl rfl ?_
        refine lm_if_eq C (tgt := 125) dL_isRow_82 (by decide) rfl (fun c6 => ?_) (fun c6 => ?_)
        · refine lm_aload_n C dL_isRow_125 rfl 3 rfl rfl ?_
          refine lm_iconst C (v := (2 : Int32)) dL_isRow_126 (by decide) rfl ?_
          refine lm_iload C dL_isRow_127 8 rfl rfl ?_
          refine lm_imul C dL_isRow_129 rfl rfl ?_
          refine lm_iload C dL_isRow_130 9 rfl rfl ?_
          obtain ⟨b15, hF⟩ := lm_gie hF
          obtain ⟨h7, eh7, hF⟩ := lm_lte hF
          refine lm_iast C (w' := (lwMW z zo m a b h7)) 143 rfl b15 dL_isRow_132 (by rw [← eh7]; rfl) rfl ?_
          refine lm_aload_n C dL_isRow_133 rfl 3 rfl rfl ?_
          refine lm_iconst C (v := (2 : Int32)) dL_isRow_134 (by decide) rfl ?_
          refine lm_iload C dL_isRow_135 8 rfl rfl ?_
          refine lm_imul C dL_isRow_137 rfl rfl ?_
          refine lm_iconst C (v := (1 : Int32)) dL_isRow_138 (by decide) rfl ?_
          refine lm_iadd C dL_isRow_139 rfl rfl ?_
          refine lm_iload C dL_isRow_140 10 rfl rfl ?_
          obtain ⟨b14, hF⟩ := lm_gie hF
          obtain ⟨h8, eh8, hF⟩ := lm_lte hF
          refine lm_iast C (w' := (lwMW z zo m a b h8)) 143 rfl b14 dL_isRow_142 (by rw [← eh8]; rfl) rfl ?_
          refine lm_aload_n C dL_isRow_143 rfl 1 rfl rfl ?_
          refine lm_bipush C (v := (6 : Int32)) dL_isRow_144 (by decide) rfl ?_
          refine lm_dup2 C dL_isRow_146 rfl rfl rfl ?_
          refine lm_iald C (v := (h8 9 0 6)) 141 rfl (by unfold vp_in; decide) rfl dL_isRow_147 rfl ?_
          refine lm_iconst C (v := (1 : Int32)) dL_isRow_148 (by decide) rfl ?_
          refine lm_iadd C dL_isRow_149 rfl rfl ?_
          obtain ⟨h9, eh9, hF⟩ := lm_lte hF
          refine lm_iast C (w' := (lwMW z zo m a b h9)) 141 rfl (by unfold vp_in; decide) dL_isRow_150 (by rw [← eh9]; rfl) rfl ?_
          refine lm_aload_n C dL_isRow_151 rfl 0 rfl rfl ?_
          refine lm_iload C dL_isRow_152 6 rfl rfl ?_
          refine lm_iload C dL_isRow_154 9 rfl rfl ?_
          refine lm_iload C dL_isRow_156 10 rfl rfl ?_
          obtain ⟨r11, h10, qh10, hF⟩ := lm_b2e hF
          obtain ⟨h12, eh12, hF⟩ := lm_lte hF
          refine lm_callV C (n := 3) (ci := 6) (w' := (lwMW z zo m a b h12)) hA (m_X6_add D z zo l m a h9 x6 t3 t4 r11 h10 qh10) gL_isRow_X6_add rfl (by decide +kernel) ⟨Nat.le_of_ble_eq_true rfl, Nat.le_of_ble_eq_true rfl⟩ ⟨Nat.le_of_ble_eq_true rfl, Nat.le_of_ble_eq_true rfl⟩ 0 rfl rfl (lw_gm z zo m a b h9) (by rw [← eh12]; exact lw_pm z zo m a b h9 h10) rfl rfl (Nat.le_of_ble_eq_true rfl) dL_isRow_158 (st' := [.int r11]) rfl rfl ?_
          refine lm_iload C dL_isRow_161 8 rfl rfl ?_
          refine lm_icmp_ne C (tgt := 170) dL_isRow_163 (by decide) rfl (fun c13 => ?_) (fun c13 => ?_)
          · have hF := lm_brt hF c13
            refine lm_iconst C (v := (0 : Int32)) dL_isRow_170 (by decide) rfl ?_
            cases hF
            exact lm_zret C hr hk rfl rfl rfl dL_isRow_171
          · have hF := lm_brf hF c13
            refine lm_iconst C (v := (1 : Int32)) dL_isRow_166 (by decide) rfl ?_
            refine lm_goto C (tgt := 171) dL_isRow_167 (by decide) ?_
            cases hF
            exact lm_zret C hr hk rfl rfl rfl dL_isRow_171
        · exact (by simp_all : False).elim
      · have hF := lm_brf hF c5
        refine lm_aload_n C dL_isRow_59 rfl 0 rfl rfl ?_
        refine lm_iload C dL_isRow_60 6 rfl rfl ?_
        refine lm_iload C dL_isRow_62 9 rfl rfl ?_
        refine lm_iload C dL_isRow_64 10 rfl rfl ?_
        obtain ⟨r17, h16, qh16, hF⟩ := lm_b2e hF
        obtain ⟨h18, eh18, hF⟩ := lm_lte hF
        refine lm_callV C (n := 3) (ci := 6) (w' := (lwMW z zo m a b h18)) hA (m_X6_add D z zo l m a h x6 t3 t4 r17 h16 qh16) gL_isRow_X6_add rfl (by decide +kernel) ⟨Nat.le_of_ble_eq_true rfl, Nat.le_of_ble_eq_true rfl⟩ ⟨Nat.le_of_ble_eq_true rfl, Nat.le_of_ble_eq_true rfl⟩ 0 rfl rfl (lw_gm z zo m a b h) (by rw [← eh18]; exact lw_pm z zo m a b h h16) rfl rfl (Nat.le_of_ble_eq_true rfl) dL_isRow_66 (st' := [.int r17]) rfl rfl ?_
        refine lm_bipush C (v := (-3 : Int32)) dL_isRow_69 (by decide) rfl ?_
        refine lm_icmp_ne C (tgt := 78) dL_isRow_71 (by decide) rfl (fun c19 => ?_) (fun c19 => ?_)
        · have hF := lm_brt hF c19
          refine lm_iconst C (v := (0 : Int32)) dL_isRow_78 (by decide) rfl ?_
          cases hF
          exact lm_zret C hr hk rfl rfl rfl dL_isRow_79
        · have hF := lm_brf hF c19
          refine lm_iconst C (v := (1 : Int32)) dL_isRow_74 (by decide) rfl ?_
          refine lm_goto C (tgt := 79) dL_isRow_75 (by decide) ?_
          cases hF
          exact lm_zret C hr hk rfl rfl rfl dL_isRow_79
    · have hF := lm_brf hF c2
      refine lm_iload C dL_isRow_24 7 rfl rfl ?_
      refine lm_iconst C (v := (3 : Int32)) dL_isRow_26 (by decide) rfl ?_
      refine lm_idiv C dL_isRow_27 (by decide) rfl rfl ?_
      refine lm_bipush C (v := (10 : Int32)) dL_isRow_28 (by decide) rfl ?_
      refine lm_irem C dL_isRow_30 (by decide) rfl rfl ?_
      refine lm_goto C (tgt := 40) dL_isRow_31 (by decide) ?_
      obtain ⟨t20, et20, hF⟩ := lm_lte hF
      rw [et20]
      refine lm_istore C (lv' := [(0, .ref (m 0)), (1, .ref (b 0)), (2, .ref (b 1)), (3, .ref (b 2)), (4, .ref (b 3)), (5, .ref (b 4)), (6, .int x6), (7, .int x7), (8, .int (h 9 0 6)), (9, .int t20)]) dL_isRow_40 (by decide) rfl [1, 2, 3, 4, 5, 6, 7, 8, 9, 0] rfl rfl ?_
      refine lm_iload C dL_isRow_42 7 rfl rfl ?_
      refine lm_bipush C (v := (30 : Int32)) dL_isRow_44 (by decide) rfl ?_
      refine lm_idiv C dL_isRow_46 (by decide) rfl rfl ?_
      refine lm_bipush C (v := (100 : Int32)) dL_isRow_47 (by decide) rfl ?_
      refine lm_irem C dL_isRow_49 (by decide) rfl rfl ?_
      obtain ⟨t21, et21, hF⟩ := lm_lte hF
      rw [et21]
      refine lm_istore C (lv' := [(0, .ref (m 0)), (1, .ref (b 0)), (2, .ref (b 1)), (3, .ref (b 2)), (4, .ref (b 3)), (5, .ref (b 4)), (6, .int x6), (7, .int x7), (8, .int (h 9 0 6)), (9, .int t20), (10, .int t21)]) dL_isRow_50 (by decide) rfl [1, 2, 3, 4, 5, 6, 7, 8, 9, 10, 0] rfl rfl ?_
      refine lm_iload C dL_isRow_52 8 rfl rfl ?_
      refine lm_bipush C (v := (20 : Int32)) dL_isRow_54 (by decide) rfl ?_
      refine lm_icmp_ne C (tgt := 80) dL_isRow_56 (by decide) rfl (fun c22 => ?_) (fun c22 => ?_)
      · have hF := lm_brt hF c22
        refine lm_iload C dL_isRow_80 6 rfl rfl ?_
        refine lm_if_eq C (tgt := 125) dL_isRow_82 (by decide) rfl (fun c23 => ?_) (fun c23 => ?_)
        · refine lm_aload_n C dL_isRow_125 rfl 3 rfl rfl ?_
          refine lm_iconst C (v := (2 : Int32)) dL_isRow_126 (by decide) rfl ?_
          refine lm_iload C dL_isRow_127 8 rfl rfl ?_
          refine lm_imul C dL_isRow_129 rfl rfl ?_
          refine lm_iload C dL_isRow_130 9 rfl rfl ?_
          obtain ⟨b32, hF⟩ := lm_gie hF
          obtain ⟨h24, eh24, hF⟩ := lm_lte hF
          refine lm_iast C (w' := (lwMW z zo m a b h24)) 143 rfl b32 dL_isRow_132 (by rw [← eh24]; rfl) rfl ?_
          refine lm_aload_n C dL_isRow_133 rfl 3 rfl rfl ?_
          refine lm_iconst C (v := (2 : Int32)) dL_isRow_134 (by decide) rfl ?_
          refine lm_iload C dL_isRow_135 8 rfl rfl ?_
          refine lm_imul C dL_isRow_137 rfl rfl ?_
          refine lm_iconst C (v := (1 : Int32)) dL_isRow_138 (by decide) rfl ?_
          refine lm_iadd C dL_isRow_139 rfl rfl ?_
          refine lm_iload C dL_isRow_140 10 rfl rfl ?_
          obtain ⟨b31, hF⟩ := lm_gie hF
          obtain ⟨h25, eh25, hF⟩ := lm_lte hF
          refine lm_iast C (w' := (lwMW z zo m a b h25)) 143 rfl b31 dL_isRow_142 (by rw [← eh25]; rfl) rfl ?_
          refine lm_aload_n C dL_isRow_143 rfl 1 rfl rfl ?_
          refine lm_bipush C (v := (6 : Int32)) dL_isRow_144 (by decide) rfl ?_
          refine lm_dup2 C dL_isRow_146 rfl rfl rfl ?_
          refine lm_iald C (v := (h25 9 0 6)) 141 rfl (by unfold vp_in; decide) rfl dL_isRow_147 rfl ?_
          refine lm_iconst C (v := (1 : Int32)) dL_isRow_148 (by decide) rfl ?_
          refine lm_iadd C dL_isRow_149 rfl rfl ?_
          obtain ⟨h26, eh26, hF⟩ := lm_lte hF
          refine lm_iast C (w' := (lwMW z zo m a b h26)) 141 rfl (by unfold vp_in; decide) dL_isRow_150 (by rw [← eh26]; rfl) rfl ?_
          refine lm_aload_n C dL_isRow_151 rfl 0 rfl rfl ?_
          refine lm_iload C dL_isRow_152 6 rfl rfl ?_
          refine lm_iload C dL_isRow_154 9 rfl rfl ?_
          refine lm_iload C dL_isRow_156 10 rfl rfl ?_
          obtain ⟨r28, h27, qh27, hF⟩ := lm_b2e hF
          obtain ⟨h29, eh29, hF⟩ := lm_lte hF
          refine lm_callV C (n := 3) (ci := 6) (w' := (lwMW z zo m a b h29)) hA (m_X6_add D z zo l m a h26 x6 t20 t21 r28 h27 qh27) gL_isRow_X6_add rfl (by decide +kernel) ⟨Nat.le_of_ble_eq_true rfl, Nat.le_of_ble_eq_true rfl⟩ ⟨Nat.le_of_ble_eq_true rfl, Nat.le_of_ble_eq_true rfl⟩ 0 rfl rfl (lw_gm z zo m a b h26) (by rw [← eh29]; exact lw_pm z zo m a b h26 h27) rfl rfl (Nat.le_of_ble_eq_true rfl) dL_isRow_158 (st' := [.int r28]) rfl rfl ?_
          refine lm_iload C dL_isRow_161 8 rfl rfl ?_
          refine lm_icmp_ne C (tgt := 170) dL_isRow_163 (by decide) rfl (fun c30 => ?_) (fun c30 => ?_)
          · have hF := lm_brt hF c30
            refine lm_iconst C (v := (0 : Int32)) dL_isRow_170 (by decide) rfl ?_
            cases hF
            exact lm_zret C hr hk rfl rfl rfl dL_isRow_171
          · have hF := lm_brf hF c30
            refine lm_iconst C (v := (1 : Int32)) dL_isRow_166 (by decide) rfl ?_
            refine lm_goto C (tgt := 171) dL_isRow_167 (by decide) ?_
            cases hF
            exact lm_zret C hr hk rfl rfl rfl dL_isRow_171
        · exact (by simp_all : False).elim
      · have hF := lm_brf hF c22
        refine lm_aload_n C dL_isRow_59 rfl 0 rfl rfl ?_
        refine lm_iload C dL_isRow_60 6 rfl rfl ?_
        refine lm_iload C dL_isRow_62 9 rfl rfl ?_
        refine lm_iload C dL_isRow_64 10 rfl rfl ?_
        obtain ⟨r34, h33, qh33, hF⟩ := lm_b2e hF
        obtain ⟨h35, eh35, hF⟩ := lm_lte hF
        refine lm_callV C (n := 3) (ci := 6) (w' := (lwMW z zo m a b h35)) hA (m_X6_add D z zo l m a h x6 t20 t21 r34 h33 qh33) gL_isRow_X6_add rfl (by decide +kernel) ⟨Nat.le_of_ble_eq_true rfl, Nat.le_of_ble_eq_true rfl⟩ ⟨Nat.le_of_ble_eq_true rfl, Nat.le_of_ble_eq_true rfl⟩ 0 rfl rfl (lw_gm z zo m a b h) (by rw [← eh35]; exact lw_pm z zo m a b h h33) rfl rfl (Nat.le_of_ble_eq_true rfl) dL_isRow_66 (st' := [.int r34]) rfl rfl ?_
        refine lm_bipush C (v := (-3 : Int32)) dL_isRow_69 (by decide) rfl ?_
        refine lm_icmp_ne C (tgt := 78) dL_isRow_71 (by decide) rfl (fun c36 => ?_) (fun c36 => ?_)
        · have hF := lm_brt hF c36
          refine lm_iconst C (v := (0 : Int32)) dL_isRow_78 (by decide) rfl ?_
          cases hF
          exact lm_zret C hr hk rfl rfl rfl dL_isRow_79
        · have hF := lm_brf hF c36
          refine lm_iconst C (v := (1 : Int32)) dL_isRow_74 (by decide) rfl ?_
          refine lm_goto C (tgt := 79) dL_isRow_75 (by decide) ?_
          cases hF
          exact lm_zret C hr hk rfl rfl rfl dL_isRow_79
  · have hF := lm_brf hF c1
    refine lm_aload_n C dL_isRow_5 rfl 1 rfl rfl ?_
    refine lm_iconst C (v := (5 : Int32)) dL_isRow_6 (by decide) rfl ?_
    refine lm_iald C (v := (h 9 0 5)) 141 rfl (by unfold vp_in; decide) rfl dL_isRow_7 rfl ?_
    refine lm_goto C (tgt := 15) dL_isRow_8 (by decide) ?_
    refine lm_istore C (lv' := [(0, .ref (m 0)), (1, .ref (b 0)), (2, .ref (b 1)), (3, .ref (b 2)), (4, .ref (b 3)), (5, .ref (b 4)), (6, .int x6), (7, .int x7), (8, .int (h 9 0 5))]) dL_isRow_15 (by decide) rfl [1, 2, 3, 4, 5, 6, 7, 8, 0] rfl rfl ?_
    refine lm_iload C dL_isRow_17 7 rfl rfl ?_
    refine lm_iconst C (v := (3 : Int32)) dL_isRow_19 (by decide) rfl ?_
    refine lm_irem C dL_isRow_20 (by decide) rfl rfl ?_
    refine lm_if_ne C (tgt := 34) dL_isRow_21 (by decide) rfl (fun c37 => ?_) (fun c37 => ?_)
    · have hF := lm_brt hF c37
      refine lm_iload C dL_isRow_34 7 rfl rfl ?_
      refine lm_iconst C (v := (3 : Int32)) dL_isRow_36 (by decide) rfl ?_
      refine lm_idiv C dL_isRow_37 (by decide) rfl rfl ?_
      refine lm_iconst C (v := (4 : Int32)) dL_isRow_38 (by decide) rfl ?_
      refine lm_irem C dL_isRow_39 (by decide) rfl rfl ?_
      obtain ⟨t38, et38, hF⟩ := lm_lte hF
      rw [et38]
      refine lm_istore C (lv' := [(0, .ref (m 0)), (1, .ref (b 0)), (2, .ref (b 1)), (3, .ref (b 2)), (4, .ref (b 3)), (5, .ref (b 4)), (6, .int x6), (7, .int x7), (8, .int (h 9 0 5)), (9, .int t38)]) dL_isRow_40 (by decide) rfl [1, 2, 3, 4, 5, 6, 7, 8, 9, 0] rfl rfl ?_
      refine lm_iload C dL_isRow_42 7 rfl rfl ?_
      refine lm_bipush C (v := (30 : Int32)) dL_isRow_44 (by decide) rfl ?_
      refine lm_idiv C dL_isRow_46 (by decide) rfl rfl ?_
      refine lm_bipush C (v := (100 : Int32)) dL_isRow_47 (by decide) rfl ?_
      refine lm_irem C dL_isRow_49 (by decide) rfl rfl ?_
      obtain ⟨t39, et39, hF⟩ := lm_lte hF
      rw [et39]
      refine lm_istore C (lv' := [(0, .ref (m 0)), (1, .ref (b 0)), (2, .ref (b 1)), (3, .ref (b 2)), (4, .ref (b 3)), (5, .ref (b 4)), (6, .int x6), (7, .int x7), (8, .int (h 9 0 5)), (9, .int t38), (10, .int t39)]) dL_isRow_50 (by decide) rfl [1, 2, 3, 4, 5, 6, 7, 8, 9, 10, 0] rfl rfl ?_
      refine lm_iload C dL_isRow_52 8 rfl rfl ?_
      refine lm_bipush C (v := (20 : Int32)) dL_isRow_54 (by decide) rfl ?_
      refine lm_icmp_ne C (tgt := 80) dL_isRow_56 (by decide) rfl (fun c40 => ?_) (fun c40 => ?_)
      · have hF := lm_brt hF c40
        refine lm_iload C dL_isRow_80 6 rfl rfl ?_
        refine lm_if_eq C (tgt := 125) dL_isRow_82 (by decide) rfl (fun c41 => ?_) (fun c41 => ?_)
        · exact (by simp_all : False).elim
        · refine lm_aload_n C dL_isRow_85 rfl 2 rfl rfl ?_
          refine lm_iconst C (v := (2 : Int32)) dL_isRow_86 (by decide) rfl ?_
          refine lm_iload C dL_isRow_87 8 rfl rfl ?_
          refine lm_imul C dL_isRow_89 rfl rfl ?_
          refine lm_iload C dL_isRow_90 9 rfl rfl ?_
          obtain ⟨b52, hF⟩ := lm_gie hF
          obtain ⟨h42, eh42, hF⟩ := lm_lte hF
          refine lm_iast C (w' := (lwMW z zo m a b h42)) 142 rfl b52 dL_isRow_92 (by rw [← eh42]; rfl) rfl ?_
          refine lm_aload_n C dL_isRow_93 rfl 2 rfl rfl ?_
          refine lm_iconst C (v := (2 : Int32)) dL_isRow_94 (by decide) rfl ?_
          refine lm_iload C dL_isRow_95 8 rfl rfl ?_
          refine lm_imul C dL_isRow_97 rfl rfl ?_
          refine lm_iconst C (v := (1 : Int32)) dL_isRow_98 (by decide) rfl ?_
          refine lm_iadd C dL_isRow_99 rfl rfl ?_
          refine lm_iload C dL_isRow_100 10 rfl rfl ?_
          obtain ⟨b51, hF⟩ := lm_gie hF
          obtain ⟨h43, eh43, hF⟩ := lm_lte hF
          refine lm_iast C (w' := (lwMW z zo m a b h43)) 142 rfl b51 dL_isRow_102 (by rw [← eh43]; rfl) rfl ?_
          refine lm_aload_n C dL_isRow_103 rfl 1 rfl rfl ?_
          refine lm_iconst C (v := (5 : Int32)) dL_isRow_104 (by decide) rfl ?_
          refine lm_dup2 C dL_isRow_105 rfl rfl rfl ?_
          refine lm_iald C (v := (h43 9 0 5)) 141 rfl (by unfold vp_in; decide) rfl dL_isRow_106 rfl ?_
          refine lm_iconst C (v := (1 : Int32)) dL_isRow_107 (by decide) rfl ?_
          refine lm_iadd C dL_isRow_108 rfl rfl ?_
          obtain ⟨h44, eh44, hF⟩ := lm_lte hF
          refine lm_iast C (w' := (lwMW z zo m a b h44)) 141 rfl (by unfold vp_in; decide) dL_isRow_109 (by rw [← eh44]; rfl) rfl ?_
          refine lm_aload_n C dL_isRow_110 rfl 1 rfl rfl ?_
          refine lm_aload C dL_isRow_111 4 rfl rfl ?_
          refine lm_aload C dL_isRow_113 5 rfl rfl ?_
          refine lm_iload C dL_isRow_115 9 rfl rfl ?_
          refine lm_iload C dL_isRow_117 9 rfl rfl ?_
          obtain ⟨τ45, qτ45, hF⟩ := lm_bde hF
          obtain ⟨h46, eh46, hF⟩ := lm_lte hF
          refine lm_callS C (n := 5) (w' := (lwMW z zo m a b h46)) hA (m_L_kept D z zo l b (h44 9) t38 t38 τ45 qτ45) gL_isRow_L_kept rfl (by decide +kernel) ⟨Nat.le_of_ble_eq_true rfl, Nat.le_of_ble_eq_true rfl⟩ ⟨Nat.le_of_ble_eq_true rfl, Nat.le_of_ble_eq_true rfl⟩ (lw_g6 z zo m a b h44) (by rw [← eh46]; exact lw_q6 z zo m a b h44 τ45) rfl rfl (Nat.le_of_ble_eq_true rfl) dL_isRow_119 (st' := []) rfl rfl ?_
          refine lm_goto C (tgt := 151) dL_isRow_122 (by decide) ?_
          refine lm_aload_n C dL_isRow_151 rfl 0 rfl rfl ?_
          refine lm_iload C dL_isRow_152 6 rfl rfl ?_
          refine lm_iload C dL_isRow_154 9 rfl rfl ?_
          refine lm_iload C dL_isRow_156 10 rfl rfl ?_
          obtain ⟨r48, h47, qh47, hF⟩ := lm_b2e hF
          obtain ⟨h49, eh49, hF⟩ := lm_lte hF
          refine lm_callV C (n := 3) (ci := 6) (w' := (lwMW z zo m a b h49)) hA (m_X6_add D z zo l m a h46 x6 t38 t39 r48 h47 qh47) gL_isRow_X6_add rfl (by decide +kernel) ⟨Nat.le_of_ble_eq_true rfl, Nat.le_of_ble_eq_true rfl⟩ ⟨Nat.le_of_ble_eq_true rfl, Nat.le_of_ble_eq_true rfl⟩ 0 rfl rfl (lw_gm z zo m a b h46) (by rw [← eh49]; exact lw_pm z zo m a b h46 h47) rfl rfl (Nat.le_of_ble_eq_true rfl) dL_isRow_158 (st' := [.int r48]) rfl rfl ?_
          refine lm_iload C dL_isRow_161 8 rfl rfl ?_
          refine lm_icmp_ne C (tgt := 170) dL_isRow_163 (by decide) rfl (fun c50 => ?_) (fun c50 => ?_)
          · have hF := lm_brt hF c50
            refine lm_iconst C (v := (0 : Int32)) dL_isRow_170 (by decide) rfl ?_
            cases hF
            exact lm_zret C hr hk rfl rfl rfl dL_isRow_171
          · have hF := lm_brf hF c50
            refine lm_iconst C (v := (1 : Int32)) dL_isRow_166 (by decide) rfl ?_
            refine lm_goto C (tgt := 171) dL_isRow_167 (by decide) ?_
            cases hF
            exact lm_zret C hr hk rfl rfl rfl dL_isRow_171
      · have hF := lm_brf hF c40
        refine lm_aload_n C dL_isRow_59 rfl 0 rfl rfl ?_
        refine lm_iload C dL_isRow_60 6 rfl rfl ?_
        refine lm_iload C dL_isRow_62 9 rfl rfl ?_
        refine lm_iload C dL_isRow_64 10 rfl rfl ?_
        obtain ⟨r54, h53, qh53, hF⟩ := lm_b2e hF
        obtain ⟨h55, eh55, hF⟩ := lm_lte hF
        refine lm_callV C (n := 3) (ci := 6) (w' := (lwMW z zo m a b h55)) hA (m_X6_add D z zo l m a h x6 t38 t39 r54 h53 qh53) gL_isRow_X6_add rfl (by decide +kernel) ⟨Nat.le_of_ble_eq_true rfl, Nat.le_of_ble_eq_true rfl⟩ ⟨Nat.le_of_ble_eq_true rfl, Nat.le_of_ble_eq_true rfl⟩ 0 rfl rfl (lw_gm z zo m a b h) (by rw [← eh55]; exact lw_pm z zo m a b h h53) rfl rfl (Nat.le_of_ble_eq_true rfl) dL_isRow_66 (st' := [.int r54]) rfl rfl ?_
        refine lm_bipush C (v := (-3 : Int32)) dL_isRow_69 (by decide) rfl ?_
        refine lm_icmp_ne C (tgt := 78) dL_isRow_71 (by decide) rfl (fun c56 => ?_) (fun c56 => ?_)
        · have hF := lm_brt hF c56
          refine lm_iconst C (v := (0 : Int32)) dL_isRow_78 (by decide) rfl ?_
          cases hF
          exact lm_zret C hr hk rfl rfl rfl dL_isRow_79
        · have hF := lm_brf hF c56
          refine lm_iconst C (v := (1 : Int32)) dL_isRow_74 (by decide) rfl ?_
          refine lm_goto C (tgt := 79) dL_isRow_75 (by decide) ?_
          cases hF
          exact lm_zret C hr hk rfl rfl rfl dL_isRow_79
    · have hF := lm_brf hF c37
      refine lm_iload C dL_isRow_24 7 rfl rfl ?_
      refine lm_iconst C (v := (3 : Int32)) dL_isRow_26 (by decide) rfl ?_
      refine lm_idiv C dL_isRow_27 (by decide) rfl rfl ?_
      refine lm_bipush C (v := (10 : Int32)) dL_isRow_28 (by decide) rfl ?_
      refine lm_irem C dL_isRow_30 (by decide) rfl rfl ?_
      refine lm_goto C (tgt := 40) dL_isRow_31 (by decide) ?_
      obtain ⟨t57, et57, hF⟩ := lm_lte hF
      rw [et57]
      refine lm_istore C (lv' := [(0, .ref (m 0)), (1, .ref (b 0)), (2, .ref (b 1)), (3, .ref (b 2)), (4, .ref (b 3)), (5, .ref (b 4)), (6, .int x6), (7, .int x7), (8, .int (h 9 0 5)), (9, .int t57)]) dL_isRow_40 (by decide) rfl [1, 2, 3, 4, 5, 6, 7, 8, 9, 0] rfl rfl ?_
      refine lm_iload C dL_isRow_42 7 rfl rfl ?_
      refine lm_bipush C (v := (30 : Int32)) dL_isRow_44 (by decide) rfl ?_
      refine lm_idiv C dL_isRow_46 (by decide) rfl rfl ?_
      refine lm_bipush C (v := (100 : Int32)) dL_isRow_47 (by decide) rfl ?_
      refine lm_irem C dL_isRow_49 (by decide) rfl rfl ?_
      obtain ⟨t58, et58, hF⟩ := lm_lte hF
      rw [et58]
      refine lm_istore C (lv' := [(0, .ref (m 0)), (1, .ref (b 0)), (2, .ref (b 1)), (3, .ref (b 2)), (4, .ref (b 3)), (5, .ref (b 4)), (6, .int x6), (7, .int x7), (8, .int (h 9 0 5)), (9, .int t57), (10, .int t58)]) dL_isRow_50 (by decide) rfl [1, 2, 3, 4, 5, 6, 7, 8, 9, 10, 0] rfl rfl ?_
      refine lm_iload C dL_isRow_52 8 rfl rfl ?_
      refine lm_bipush C (v := (20 : Int32)) dL_isRow_54 (by decide) rfl ?_
      refine lm_icmp_ne C (tgt := 80) dL_isRow_56 (by decide) rfl (fun c59 => ?_) (fun c59 => ?_)
      · have hF := lm_brt hF c59
        refine lm_iload C dL_isRow_80 6 rfl rfl ?_
        refine lm_if_eq C (tgt := 125) dL_isRow_82 (by decide) rfl (fun c60 => ?_) (fun c60 => ?_)
        · exact (by simp_all : False).elim
        · refine lm_aload_n C dL_isRow_85 rfl 2 rfl rfl ?_
          refine lm_iconst C (v := (2 : Int32)) dL_isRow_86 (by decide) rfl ?_
          refine lm_iload C dL_isRow_87 8 rfl rfl ?_
          refine lm_imul C dL_isRow_89 rfl rfl ?_
          refine lm_iload C dL_isRow_90 9 rfl rfl ?_
          obtain ⟨b71, hF⟩ := lm_gie hF
          obtain ⟨h61, eh61, hF⟩ := lm_lte hF
          refine lm_iast C (w' := (lwMW z zo m a b h61)) 142 rfl b71 dL_isRow_92 (by rw [← eh61]; rfl) rfl ?_
          refine lm_aload_n C dL_isRow_93 rfl 2 rfl rfl ?_
          refine lm_iconst C (v := (2 : Int32)) dL_isRow_94 (by decide) rfl ?_
          refine lm_iload C dL_isRow_95 8 rfl rfl ?_
          refine lm_imul C dL_isRow_97 rfl rfl ?_
          refine lm_iconst C (v := (1 : Int32)) dL_isRow_98 (by decide) rfl ?_
          refine lm_iadd C dL_isRow_99 rfl rfl ?_
          refine lm_iload C dL_isRow_100 10 rfl rfl ?_
          obtain ⟨b70, hF⟩ := lm_gie hF
          obtain ⟨h62, eh62, hF⟩ := lm_lte hF
          refine lm_iast C (w' := (lwMW z zo m a b h62)) 142 rfl b70 dL_isRow_102 (by rw [← eh62]; rfl) rfl ?_
          refine lm_aload_n C dL_isRow_103 rfl 1 rfl rfl ?_
          refine lm_iconst C (v := (5 : Int32)) dL_isRow_104 (by decide) rfl ?_
          refine lm_dup2 C dL_isRow_105 rfl rfl rfl ?_
          refine lm_iald C (v := (h62 9 0 5)) 141 rfl (by unfold vp_in; decide) rfl dL_isRow_106 rfl ?_
          refine lm_iconst C (v := (1 : Int32)) dL_isRow_107 (by decide) rfl ?_
          refine lm_iadd C dL_isRow_108 rfl rfl ?_
          obtain ⟨h63, eh63, hF⟩ := lm_lte hF
          refine lm_iast C (w' := (lwMW z zo m a b h63)) 141 rfl (by unfold vp_in; decide) dL_isRow_109 (by rw [← eh63]; rfl) rfl ?_
          refine lm_aload_n C dL_isRow_110 rfl 1 rfl rfl ?_
          refine lm_aload C dL_isRow_111 4 rfl rfl ?_
          refine lm_aload C dL_isRow_113 5 rfl rfl ?_
          refine lm_iload C dL_isRow_115 9 rfl rfl ?_
          refine lm_iload C dL_isRow_117 9 rfl rfl ?_
          obtain ⟨τ64, qτ64, hF⟩ := lm_bde hF
          obtain ⟨h65, eh65, hF⟩ := lm_lte hF
          refine lm_callS C (n := 5) (w' := (lwMW z zo m a b h65)) hA (m_L_kept D z zo l b (h63 9) t57 t57 τ64 qτ64) gL_isRow_L_kept rfl (by decide +kernel) ⟨Nat.le_of_ble_eq_true rfl, Nat.le_of_ble_eq_true rfl⟩ ⟨Nat.le_of_ble_eq_true rfl, Nat.le_of_ble_eq_true rfl⟩ (lw_g6 z zo m a b h63) (by rw [← eh65]; exact lw_q6 z zo m a b h63 τ64) rfl rfl (Nat.le_of_ble_eq_true rfl) dL_isRow_119 (st' := []) rfl rfl ?_
          refine lm_goto C (tgt := 151) dL_isRow_122 (by decide) ?_
          refine lm_aload_n C dL_isRow_151 rfl 0 rfl rfl ?_
          refine lm_iload C dL_isRow_152 6 rfl rfl ?_
          refine lm_iload C dL_isRow_154 9 rfl rfl ?_
          refine lm_iload C dL_isRow_156 10 rfl rfl ?_
          obtain ⟨r67, h66, qh66, hF⟩ := lm_b2e hF
          obtain ⟨h68, eh68, hF⟩ := lm_lte hF
          refine lm_callV C (n := 3) (ci := 6) (w' := (lwMW z zo m a b h68)) hA (m_X6_add D z zo l m a h65 x6 t57 t58 r67 h66 qh66) gL_isRow_X6_add rfl (by decide +kernel) ⟨Nat.le_of_ble_eq_true rfl, Nat.le_of_ble_eq_true rfl⟩ ⟨Nat.le_of_ble_eq_true rfl, Nat.le_of_ble_eq_true rfl⟩ 0 rfl rfl (lw_gm z zo m a b h65) (by rw [← eh68]; exact lw_pm z zo m a b h65 h66) rfl rfl (Nat.le_of_ble_eq_true rfl) dL_isRow_158 (st' := [.int r67]) rfl rfl ?_
          refine lm_iload C dL_isRow_161 8 rfl rfl ?_
          refine lm_icmp_ne C (tgt := 170) dL_isRow_163 (by decide) rfl (fun c69 => ?_) (fun c69 => ?_)
          · have hF := lm_brt hF c69
            refine lm_iconst C (v := (0 : Int32)) dL_isRow_170 (by decide) rfl ?_
            cases hF
            exact lm_zret C hr hk rfl rfl rfl dL_isRow_171
          · have hF := lm_brf hF c69
            refine lm_iconst C (v := (1 : Int32)) dL_isRow_166 (by decide) rfl ?_
            refine lm_goto C (tgt := 171) dL_isRow_167 (by decide) ?_
            cases hF
            exact lm_zret C hr hk rfl rfl rfl dL_isRow_171
      · have hF := lm_brf hF c59
        refine lm_aload_n C dL_isRow_59 rfl 0 rfl rfl ?_
        refine lm_iload C dL_isRow_60 6 rfl rfl ?_
        refine lm_iload C dL_isRow_62 9 rfl rfl ?_
        refine lm_iload C dL_isRow_64 10 rfl rfl ?_
        obtain ⟨r73, h72, qh72, hF⟩ := lm_b2e hF
        obtain ⟨h74, eh74, hF⟩ := lm_lte hF
        refine lm_callV C (n := 3) (ci := 6) (w' := (lwMW z zo m a b h74)) hA (m_X6_add D z zo l m a h x6 t57 t58 r73 h72 qh72) gL_isRow_X6_add rfl (by decide +kernel) ⟨Nat.le_of_ble_eq_true rfl, Nat.le_of_ble_eq_true rfl⟩ ⟨Nat.le_of_ble_eq_true rfl, Nat.le_of_ble_eq_true rfl⟩ 0 rfl rfl (lw_gm z zo m a b h) (by rw [← eh74]; exact lw_pm z zo m a b h h72) rfl rfl (Nat.le_of_ble_eq_true rfl) dL_isRow_66 (st' := [.int r73]) rfl rfl ?_
        refine lm_bipush C (v := (-3 : Int32)) dL_isRow_69 (by decide) rfl ?_
        refine lm_icmp_ne C (tgt := 78) dL_isRow_71 (by decide) rfl (fun c75 => ?_) (fun c75 => ?_)
        · have hF := lm_brt hF c75
          refine lm_iconst C (v := (0 : Int32)) dL_isRow_78 (by decide) rfl ?_
          cases hF
          exact lm_zret C hr hk rfl rfl rfl dL_isRow_79
        · have hF := lm_brf hF c75
          refine lm_iconst C (v := (1 : Int32)) dL_isRow_74 (by decide) rfl ?_
          refine lm_goto C (tgt := 79) dL_isRow_75 (by decide) ?_
          cases hF
          exact lm_zret C hr hk rfl rfl rfl dL_isRow_79
set_option maxRecDepth 100000 in
set_option maxHeartbeats 4000000 in
theorem m_L_isGone (D : va_G) (z zo : ClassId) (l : Launch) (m : Nat → Nat) (a : Nat → Nat → Nat) (b : Nat → Nat) (h : Nat → Hp) (x6 x7 : Int32) (r : Int32) (h' : Nat → Hp) (hF : F_L_isGone h x6 x7 = some (r, h')) : lm_C D z zo l yL_isGone wsL_isGone 6 147 [.ref (m 0), .ref (b 0), .ref (b 1), .ref (b 2), .ref (b 3), .ref (b 4), .int x6, .int x7] (lwMW z zo m a b h) (some (.int r)) (lwMW z zo m a b h') := by
  refine lm_C.of (by decide) rfl (Nat.le_of_ble_eq_true rfl) (own := RL) rfl ?_
  intro p e s m_ args below meth c C hr hk hA
  have loop_83 : ∀ (n : Nat) (hx : Nat → Hp) (x6 : Int32) (x7 : Int32) (x8 : Int32) (x9 : Int32), F_L_isGone_L83 n hx x6 x7 x8 x9 = some (r, h') → lm_St p l e ({ frames := 6, cells := 0, slots := 0, locals := 147 }) s m_ args below meth c D (va_A (lwMW z zo m a b h) s.heap.size) 10 0 0 (lm_End below D (some (.int r)) (lwMW z zo m a b h) (lwMW z zo m a b h') args s) false (lwMW z zo m a b hx) 83 [(0, .ref (m 0)), (1, .ref (b 0)), (2, .ref (b 1)), (3, .ref (b 2)), (4, .ref (b 3)), (5, .ref (b 4)), (6, .int x6), (7, .int x7), (8, .int x8), (9, .int x9)] [] := by
    intro n
    induction n with
    | zero => intro hx x6 x7 x8 x9 hF; cases (show (none : Option _) = some _ from hF)
    | succ n ih =>
      intro hx x6 x7 x8 x9 hF
      rw [F_L_isGone_L83] at hF
      refine lm_iload C dL_isGone_83 9 rfl rfl ?_
      refine lm_iconst C (v := (2 : Int32)) dL_isGone_85 (by decide) rfl ?_
      refine lm_iload C dL_isGone_86 6 rfl rfl ?_
      refine lm_if_eq C (tgt := 97) dL_isGone_88 (by decide) rfl (fun c8 => ?_) (fun c8 => ?_)
      · have hF := lm_brt hF c8
        refine lm_aload_n C dL_isGone_97 rfl 1 rfl rfl ?_
        refine lm_bipush C (v := (6 : Int32)) dL_isGone_98 (by decide) rfl ?_
        refine lm_iald C (v := (hx 9 0 6)) 141 rfl (by unfold vp_in; decide) rfl dL_isGone_100 rfl ?_
        refine lm_imul C dL_isGone_101 rfl rfl ?_
        refine lm_icmp_ge C (tgt := 139) dL_isGone_102 (by decide) rfl (fun c9 => ?_) (fun c9 => ?_)
        · have hF := lm_brt hF c9
          refine lm_iload C dL_isGone_139 6 rfl rfl ?_
          refine lm_if_eq C (tgt := 159) dL_isGone_141 (by decide) rfl (fun c10 => ?_) (fun c10 => ?_)
          · refine lm_aload_n C dL_isGone_159 rfl 1 rfl rfl ?_
            refine lm_bipush C (v := (7 : Int32)) dL_isGone_160 (by decide) rfl ?_
            refine lm_dup2 C dL_isGone_162 rfl rfl rfl ?_
            refine lm_iald C (v := (hx 9 0 7)) 141 rfl (by unfold vp_in; decide) rfl dL_isGone_163 rfl ?_
            refine lm_iload C dL_isGone_164 7 rfl rfl ?_
            refine lm_aload_n C dL_isGone_166 rfl 1 rfl rfl ?_
            refine lm_bipush C (v := (7 : Int32)) dL_isGone_167 (by decide) rfl ?_
            refine lm_iald C (v := (hx 9 0 7)) 141 rfl (by unfold vp_in; decide) rfl dL_isGone_169 rfl ?_
            refine lm_icmp_ge C (tgt := 177) dL_isGone_170 (by decide) rfl (fun c11 => ?_) (fun c11 => ?_)
            · have hF := lm_brt hF c11
              refine lm_iconst C (v := (0 : Int32)) dL_isGone_177 (by decide) rfl ?_
              refine lm_isub C dL_isGone_178 rfl rfl ?_
              obtain ⟨h12, eh12, hF⟩ := lm_lte hF
              refine lm_iast C (w' := (lwMW z zo m a b h12)) 141 rfl (by unfold vp_in; decide) dL_isGone_179 (by rw [← eh12]; rfl) rfl ?_
              refine lm_aload_n C dL_isGone_180 rfl 0 rfl rfl ?_
              refine lm_iload C dL_isGone_181 6 rfl rfl ?_
              refine lm_iload C dL_isGone_183 7 rfl rfl ?_
              obtain ⟨r14, h13, qh13, hF⟩ := lm_b2e hF
              obtain ⟨h15, eh15, hF⟩ := lm_lte hF
              refine lm_callV C (n := 2) (ci := 6) (w' := (lwMW z zo m a b h15)) hA (m_X6_drop D z zo l m a h12 x6 x7 r14 h13 qh13) gL_isGone_X6_drop rfl (by decide +kernel) ⟨Nat.le_of_ble_eq_true rfl, Nat.le_of_ble_eq_true rfl⟩ ⟨Nat.le_of_ble_eq_true rfl, Nat.le_of_ble_eq_true rfl⟩ 0 rfl rfl (lw_gm z zo m a b h12) (by rw [← eh15]; exact lw_pm z zo m a b h12 h13) rfl rfl (Nat.le_of_ble_eq_true rfl) dL_isGone_185 (st' := [.int r14]) rfl rfl ?_
              refine lm_iload C dL_isGone_188 6 rfl rfl ?_
              refine lm_if_eq C (tgt := 199) dL_isGone_190 (by decide) rfl (fun c16 => ?_) (fun c16 => ?_)
              · refine lm_aload_n C dL_isGone_199 rfl 1 rfl rfl ?_
                refine lm_bipush C (v := (6 : Int32)) dL_isGone_200 (by decide) rfl ?_
                refine lm_iald C (v := (h15 9 0 6)) 141 rfl (by unfold vp_in; decide) rfl dL_isGone_202 rfl ?_
                refine lm_icmp_ne C (tgt := 210) dL_isGone_203 (by decide) rfl (fun c17 => ?_) (fun c17 => ?_)
                · have hF := lm_brt hF c17
                  refine lm_iconst C (v := (0 : Int32)) dL_isGone_210 (by decide) rfl ?_
                  cases hF
                  exact lm_zret C hr hk rfl rfl rfl dL_isGone_211
                · have hF := lm_brf hF c17
                  refine lm_iconst C (v := (1 : Int32)) dL_isGone_206 (by decide) rfl ?_
                  refine lm_goto C (tgt := 211) dL_isGone_207 (by decide) ?_
                  cases hF
                  exact lm_zret C hr hk rfl rfl rfl dL_isGone_211
              · exact (by simp_all : False).elim
            · have hF := lm_brf hF c11
              refine lm_iconst C (v := (1 : Int32)) dL_isGone_173 (by decide) rfl ?_
              refine lm_goto C (tgt := 178) dL_isGone_174 (by decide) ?_
              refine lm_isub C dL_isGone_178 rfl rfl ?_
              obtain ⟨h18, eh18, hF⟩ := lm_lte hF
              refine lm_iast C (w' := (lwMW z zo m a b h18)) 141 rfl (by unfold vp_in; decide) dL_isGone_179 (by rw [← eh18]; rfl) rfl ?_
              refine lm_aload_n C dL_isGone_180 rfl 0 rfl rfl ?_
              refine lm_iload C dL_isGone_181 6 rfl rfl ?_
              refine lm_iload C dL_isGone_183 7 rfl rfl ?_
              obtain ⟨r20, h19, qh19, hF⟩ := lm_b2e hF
              obtain ⟨h21, eh21, hF⟩ := lm_lte hF
              refine lm_callV C (n := 2) (ci := 6) (w' := (lwMW z zo m a b h21)) hA (m_X6_drop D z zo l m a h18 x6 x7 r20 h19 qh19) gL_isGone_X6_drop rfl (by decide +kernel) ⟨Nat.le_of_ble_eq_true rfl, Nat.le_of_ble_eq_true rfl⟩ ⟨Nat.le_of_ble_eq_true rfl, Nat.le_of_ble_eq_true rfl⟩ 0 rfl rfl (lw_gm z zo m a b h18) (by rw [← eh21]; exact lw_pm z zo m a b h18 h19) rfl rfl (Nat.le_of_ble_eq_true rfl) dL_isGone_185 (st' := [.int r20]) rfl rfl ?_
              refine lm_iload C dL_isGone_188 6 rfl rfl ?_
              refine lm_if_eq C (tgt := 199) dL_isGone_190 (by decide) rfl (fun c22 => ?_) (fun c22 => ?_)
              · refine lm_aload_n C dL_isGone_199 rfl 1 rfl rfl ?_
                refine lm_bipush C (v := (6 : Int32)) dL_isGone_200 (by decide) rfl ?_
                refine lm_iald C (v := (h21 9 0 6)) 141 rfl (by unfold vp_in; decide) rfl dL_isGone_202 rfl ?_
                refine lm_icmp_ne C (tgt := 210) dL_isGone_203 (by decide) rfl (fun c23 => ?_) (fun c23 => ?_)
                · have hF := lm_brt hF c23
                  refine lm_iconst C (v := (0 : Int32)) dL_isGone_210 (by decide) rfl ?_
                  cases hF
                  exact lm_zret C hr hk rfl rfl rfl dL_isGone_211
                · have hF := lm_brf hF c23
                  refine lm_iconst C (v := (1 : Int32)) dL_isGone_206 (by decide) rfl ?_
                  refine lm_goto C (tgt := 211) dL_isGone_207 (by decide) ?_
                  cases hF
                  exact lm_zret C hr hk rfl rfl rfl dL_isGone_211
              · exact (by simp_all : False).elim
          · exact (by simp_all : False).elim
        · have hF := lm_brf hF c9
          refine lm_iload C dL_isGone_105 6 rfl rfl ?_
          refine lm_if_eq C (tgt := 123) dL_isGone_107 (by decide) rfl (fun c24 => ?_) (fun c24 => ?_)
          · refine lm_aload_n C dL_isGone_123 rfl 3 rfl rfl ?_
            refine lm_iload C dL_isGone_124 9 rfl rfl ?_
            refine lm_aload_n C dL_isGone_126 rfl 3 rfl rfl ?_
            refine lm_iload C dL_isGone_127 9 rfl rfl ?_
            refine lm_iconst C (v := (2 : Int32)) dL_isGone_129 (by decide) rfl ?_
            refine lm_iadd C dL_isGone_130 rfl rfl ?_
            obtain ⟨b25, hF⟩ := lm_gie hF
            refine lm_iald C (v := (hx 9 2 ((x9 + (2 : Int32))).toNatClampNeg)) 143 rfl b25 rfl dL_isGone_131 rfl ?_
            obtain ⟨b27, hF⟩ := lm_gie hF
            obtain ⟨h26, eh26, hF⟩ := lm_lte hF
            refine lm_iast C (w' := (lwMW z zo m a b h26)) 143 rfl b27 dL_isGone_132 (by rw [← eh26]; rfl) rfl ?_
            refine lm_iinc C (lv' := [(0, .ref (m 0)), (1, .ref (b 0)), (2, .ref (b 1)), (3, .ref (b 2)), (4, .ref (b 3)), (5, .ref (b 4)), (6, .int x6), (7, .int x7), (8, .int x8), (9, .int (x9 + (1 : Int32)))]) (x9 + (1 : Int32)) dL_isGone_133 9 rfl rfl (by decide) rfl [1, 2, 3, 4, 5, 6, 7, 8, 9, 0] rfl rfl ?_
            refine lm_goto C (tgt := 83) dL_isGone_136 (by decide) ?_
            exact ih h26 x6 x7 x8 (x9 + (1 : Int32)) hF
          · exact (by simp_all : False).elim
      · have hF := lm_brf hF c8
        refine lm_aload_n C dL_isGone_91 rfl 1 rfl rfl ?_
        refine lm_iconst C (v := (5 : Int32)) dL_isGone_92 (by decide) rfl ?_
        refine lm_iald C (v := (hx 9 0 5)) 141 rfl (by unfold vp_in; decide) rfl dL_isGone_93 rfl ?_
        refine lm_goto C (tgt := 101) dL_isGone_94 (by decide) ?_
        refine lm_imul C dL_isGone_101 rfl rfl ?_
        refine lm_icmp_ge C (tgt := 139) dL_isGone_102 (by decide) rfl (fun c28 => ?_) (fun c28 => ?_)
        · have hF := lm_brt hF c28
          refine lm_iload C dL_isGone_139 6 rfl rfl ?_
          refine lm_if_eq C (tgt := 159) dL_isGone_141 (by decide) rfl (fun c29 => ?_) (fun c29 => ?_)
          · exact (by simp_all : False).elim
          · refine lm_aload_n C dL_isGone_144 rfl 1 rfl rfl ?_
            refine lm_aload C dL_isGone_145 4 rfl rfl ?_
            refine lm_aload C dL_isGone_147 5 rfl rfl ?_
            refine lm_iload C dL_isGone_149 8 rfl rfl ?_
            refine lm_iload C dL_isGone_151 8 rfl rfl ?_
            obtain ⟨τ30, qτ30, hF⟩ := lm_bde hF
            obtain ⟨h31, eh31, hF⟩ := lm_lte hF
            refine lm_callS C (n := 5) (w' := (lwMW z zo m a b h31)) hA (m_L_kept D z zo l b (hx 9) x8 x8 τ30 qτ30) gL_isGone_L_kept rfl (by decide +kernel) ⟨Nat.le_of_ble_eq_true rfl, Nat.le_of_ble_eq_true rfl⟩ ⟨Nat.le_of_ble_eq_true rfl, Nat.le_of_ble_eq_true rfl⟩ (lw_g6 z zo m a b hx) (by rw [← eh31]; exact lw_q6 z zo m a b hx τ30) rfl rfl (Nat.le_of_ble_eq_true rfl) dL_isGone_153 (st' := []) rfl rfl ?_
            refine lm_goto C (tgt := 180) dL_isGone_156 (by decide) ?_
            refine lm_aload_n C dL_isGone_180 rfl 0 rfl rfl ?_
            refine lm_iload C dL_isGone_181 6 rfl rfl ?_
            refine lm_iload C dL_isGone_183 7 rfl rfl ?_
            obtain ⟨r33, h32, qh32, hF⟩ := lm_b2e hF
            obtain ⟨h34, eh34, hF⟩ := lm_lte hF
            refine lm_callV C (n := 2) (ci := 6) (w' := (lwMW z zo m a b h34)) hA (m_X6_drop D z zo l m a h31 x6 x7 r33 h32 qh32) gL_isGone_X6_drop rfl (by decide +kernel) ⟨Nat.le_of_ble_eq_true rfl, Nat.le_of_ble_eq_true rfl⟩ ⟨Nat.le_of_ble_eq_true rfl, Nat.le_of_ble_eq_true rfl⟩ 0 rfl rfl (lw_gm z zo m a b h31) (by rw [← eh34]; exact lw_pm z zo m a b h31 h32) rfl rfl (Nat.le_of_ble_eq_true rfl) dL_isGone_185 (st' := [.int r33]) rfl rfl ?_
            refine lm_iload C dL_isGone_188 6 rfl rfl ?_
            refine lm_if_eq C (tgt := 199) dL_isGone_190 (by decide) rfl (fun c35 => ?_) (fun c35 => ?_)
            · exact (by simp_all : False).elim
            · refine lm_aload_n C dL_isGone_193 rfl 1 rfl rfl ?_
              refine lm_iconst C (v := (5 : Int32)) dL_isGone_194 (by decide) rfl ?_
              refine lm_iald C (v := (h34 9 0 5)) 141 rfl (by unfold vp_in; decide) rfl dL_isGone_195 rfl ?_
              refine lm_goto C (tgt := 203) dL_isGone_196 (by decide) ?_
              refine lm_icmp_ne C (tgt := 210) dL_isGone_203 (by decide) rfl (fun c36 => ?_) (fun c36 => ?_)
              · have hF := lm_brt hF c36
                refine lm_iconst C (v := (0 : Int32)) dL_isGone_210 (by decide) rfl ?_
                cases hF
                exact lm_zret C hr hk rfl rfl rfl dL_isGone_211
              · have hF := lm_brf hF c36
                refine lm_iconst C (v := (1 : Int32)) dL_isGone_206 (by decide) rfl ?_
                refine lm_goto C (tgt := 211) dL_isGone_207 (by decide) ?_
                cases hF
                exact lm_zret C hr hk rfl rfl rfl dL_isGone_211
        · have hF := lm_brf hF c28
          refine lm_iload C dL_isGone_105 6 rfl rfl ?_
          refine lm_if_eq C (tgt := 123) dL_isGone_107 (by decide) rfl (fun c37 => ?_) (fun c37 => ?_)
          · exact (by simp_all : False).elim
          · refine lm_aload_n C dL_isGone_110 rfl 2 rfl rfl ?_
            refine lm_iload C dL_isGone_111 9 rfl rfl ?_
            refine lm_aload_n C dL_isGone_113 rfl 2 rfl rfl ?_
            refine lm_iload C dL_isGone_114 9 rfl rfl ?_
            refine lm_iconst C (v := (2 : Int32)) dL_isGone_116 (by decide) rfl ?_
            refine lm_iadd C dL_isGone_117 rfl rfl ?_
            obtain ⟨b38, hF⟩ := lm_gie hF
            refine lm_iald C (v := (hx 9 1 ((x9 + (2 : Int32))).toNatClampNeg)) 142 rfl b38 rfl dL_isGone_118 rfl ?_
            obtain ⟨b40, hF⟩ := lm_gie hF
            obtain ⟨h39, eh39, hF⟩ := lm_lte hF
            refine lm_iast C (w' := (lwMW z zo m a b h39)) 142 rfl b40 dL_isGone_119 (by rw [← eh39]; rfl) rfl ?_
            refine lm_goto C (tgt := 133) dL_isGone_120 (by decide) ?_
            refine lm_iinc C (lv' := [(0, .ref (m 0)), (1, .ref (b 0)), (2, .ref (b 1)), (3, .ref (b 2)), (4, .ref (b 3)), (5, .ref (b 4)), (6, .int x6), (7, .int x7), (8, .int x8), (9, .int (x9 + (1 : Int32)))]) (x9 + (1 : Int32)) dL_isGone_133 9 rfl rfl (by decide) rfl [1, 2, 3, 4, 5, 6, 7, 8, 9, 0] rfl rfl ?_
            refine lm_goto C (tgt := 83) dL_isGone_136 (by decide) ?_
            exact ih h39 x6 x7 x8 (x9 + (1 : Int32)) hF
  show lm_St p l e ({ frames := 6, cells := 0, slots := 0, locals := 147 }) s m_ args below meth c D (va_A (lwMW z zo m a b h) s.heap.size) 10 0 0 (lm_End below D (some (.int r)) (lwMW z zo m a b h) (lwMW z zo m a b h') args s) false (lwMW z zo m a b h) 0 [(0, .ref (m 0)), (1, .ref (b 0)), (2, .ref (b 1)), (3, .ref (b 2)), (4, .ref (b 3)), (5, .ref (b 4)), (6, .int x6), (7, .int x7)] []
  rw [F_L_isGone] at hF
  refine lm_iload C dL_isGone_0 7 rfl rfl ?_
  refine lm_iload C dL_isGone_2 6 rfl rfl ?_
  refine lm_if_eq C (tgt := 13) dL_isGone_4 (by decide) rfl (fun c1 => ?_) (fun c1 => ?_)
  · have hF := lm_brt hF c1
    refine lm_aload_n C dL_isGone_13 rfl 1 rfl rfl ?_
    refine lm_bipush C (v := (6 : Int32)) dL_isGone_14 (by decide) rfl ?_
    refine lm_iald C (v := (h 9 0 6)) 141 rfl (by unfold vp_in; decide) rfl dL_isGone_16 rfl ?_
    refine lm_icmp_lt C (tgt := 38) dL_isGone_17 (by decide) rfl (fun c2 => ?_) (fun c2 => ?_)
    · have hF := lm_brt hF c2
      refine lm_iload C dL_isGone_38 6 rfl rfl ?_
      refine lm_if_eq C (tgt := 52) dL_isGone_40 (by decide) rfl (fun c3 => ?_) (fun c3 => ?_)
      · refine lm_aload_n C dL_isGone_52 rfl 3 rfl rfl ?_
        refine lm_iconst C (v := (2 : Int32)) dL_isGone_53 (by decide) rfl ?_
        refine lm_iload C dL_isGone_54 7 rfl rfl ?_
        refine lm_imul C dL_isGone_56 rfl rfl ?_
        obtain ⟨b4, hF⟩ := lm_gie hF
        refine lm_iald C (v := (h 9 2 (((2 : Int32) * x7)).toNatClampNeg)) 143 rfl b4 rfl dL_isGone_57 rfl ?_
        obtain ⟨t5, et5, hF⟩ := lm_lte hF
        rw [et5]
        refine lm_istore C (lv' := [(0, .ref (m 0)), (1, .ref (b 0)), (2, .ref (b 1)), (3, .ref (b 2)), (4, .ref (b 3)), (5, .ref (b 4)), (6, .int x6), (7, .int x7), (8, .int t5)]) dL_isGone_58 (by decide) rfl [1, 2, 3, 4, 5, 6, 7, 8, 0] rfl rfl ?_
        refine lm_aload_n C dL_isGone_60 rfl 1 rfl rfl ?_
        refine lm_iload C dL_isGone_61 6 rfl rfl ?_
        refine lm_if_eq C (tgt := 70) dL_isGone_63 (by decide) rfl (fun c6 => ?_) (fun c6 => ?_)
        · refine lm_bipush C (v := (6 : Int32)) dL_isGone_70 (by decide) rfl ?_
          refine lm_dup2 C dL_isGone_72 rfl rfl rfl ?_
          refine lm_iald C (v := (h 9 0 6)) 141 rfl (by unfold vp_in; decide) rfl dL_isGone_73 rfl ?_
          refine lm_iconst C (v := (1 : Int32)) dL_isGone_74 (by decide) rfl ?_
          refine lm_isub C dL_isGone_75 rfl rfl ?_
          obtain ⟨h7, eh7, hF⟩ := lm_lte hF
          refine lm_iast C (w' := (lwMW z zo m a b h7)) 141 rfl (by unfold vp_in; decide) dL_isGone_76 (by rw [← eh7]; rfl) rfl ?_
          refine lm_iconst C (v := (2 : Int32)) dL_isGone_77 (by decide) rfl ?_
          refine lm_iload C dL_isGone_78 7 rfl rfl ?_
          refine lm_imul C dL_isGone_80 rfl rfl ?_
          refine lm_istore C (lv' := [(0, .ref (m 0)), (1, .ref (b 0)), (2, .ref (b 1)), (3, .ref (b 2)), (4, .ref (b 3)), (5, .ref (b 4)), (6, .int x6), (7, .int x7), (8, .int t5), (9, .int ((2 : Int32) * x7))]) dL_isGone_81 (by decide) rfl [1, 2, 3, 4, 5, 6, 7, 8, 9, 0] rfl rfl ?_
          exact loop_83 1000 h7 x6 x7 t5 ((2 : Int32) * x7) hF
        · exact (by simp_all : False).elim
      · exact (by simp_all : False).elim
    · have hF := lm_brf hF c2
      refine lm_aload_n C dL_isGone_20 rfl 0 rfl rfl ?_
      refine lm_iload C dL_isGone_21 6 rfl rfl ?_
      refine lm_iload C dL_isGone_23 7 rfl rfl ?_
      obtain ⟨r42, h41, qh41, hF⟩ := lm_b2e hF
      obtain ⟨h43, eh43, hF⟩ := lm_lte hF
      refine lm_callV C (n := 2) (ci := 6) (w' := (lwMW z zo m a b h43)) hA (m_X6_drop D z zo l m a h x6 x7 r42 h41 qh41) gL_isGone_X6_drop rfl (by decide +kernel) ⟨Nat.le_of_ble_eq_true rfl, Nat.le_of_ble_eq_true rfl⟩ ⟨Nat.le_of_ble_eq_true rfl, Nat.le_of_ble_eq_true rfl⟩ 0 rfl rfl (lw_gm z zo m a b h) (by rw [← eh43]; exact lw_pm z zo m a b h h41) rfl rfl (Nat.le_of_ble_eq_true rfl) dL_isGone_25 (st' := [.int r42]) rfl rfl ?_
      refine lm_iconst C (v := (-1 : Int32)) dL_isGone_28 (by decide) rfl ?_
      refine lm_icmp_ne C (tgt := 36) dL_isGone_29 (by decide) rfl (fun c44 => ?_) (fun c44 => ?_)
      · have hF := lm_brt hF c44
        refine lm_iconst C (v := (0 : Int32)) dL_isGone_36 (by decide) rfl ?_
        cases hF
        exact lm_zret C hr hk rfl rfl rfl dL_isGone_37
      · have hF := lm_brf hF c44
        refine lm_iconst C (v := (1 : Int32)) dL_isGone_32 (by decide) rfl ?_
        refine lm_goto C (tgt := 37) dL_isGone_33 (by decide) ?_
        cases hF
        exact lm_zret C hr hk rfl rfl rfl dL_isGone_37
  · have hF := lm_brf hF c1
    refine lm_aload_n C dL_isGone_7 rfl 1 rfl rfl ?_
    refine lm_iconst C (v := (5 : Int32)) dL_isGone_8 (by decide) rfl ?_
    refine lm_iald C (v := (h 9 0 5)) 141 rfl (by unfold vp_in; decide) rfl dL_isGone_9 rfl ?_
    refine lm_goto C (tgt := 17) dL_isGone_10 (by decide) ?_
    refine lm_icmp_lt C (tgt := 38) dL_isGone_17 (by decide) rfl (fun c45 => ?_) (fun c45 => ?_)
    · have hF := lm_brt hF c45
      refine lm_iload C dL_isGone_38 6 rfl rfl ?_
      refine lm_if_eq C (tgt := 52) dL_isGone_40 (by decide) rfl (fun c46 => ?_) (fun c46 => ?_)
      · exact (by simp_all : False).elim
      · refine lm_aload_n C dL_isGone_43 rfl 2 rfl rfl ?_
        refine lm_iconst C (v := (2 : Int32)) dL_isGone_44 (by decide) rfl ?_
        refine lm_iload C dL_isGone_45 7 rfl rfl ?_
        refine lm_imul C dL_isGone_47 rfl rfl ?_
        obtain ⟨b47, hF⟩ := lm_gie hF
        refine lm_iald C (v := (h 9 1 (((2 : Int32) * x7)).toNatClampNeg)) 142 rfl b47 rfl dL_isGone_48 rfl ?_
        refine lm_goto C (tgt := 58) dL_isGone_49 (by decide) ?_
        obtain ⟨t48, et48, hF⟩ := lm_lte hF
        rw [et48]
        refine lm_istore C (lv' := [(0, .ref (m 0)), (1, .ref (b 0)), (2, .ref (b 1)), (3, .ref (b 2)), (4, .ref (b 3)), (5, .ref (b 4)), (6, .int x6), (7, .int x7), (8, .int t48)]) dL_isGone_58 (by decide) rfl [1, 2, 3, 4, 5, 6, 7, 8, 0] rfl rfl ?_
        refine lm_aload_n C dL_isGone_60 rfl 1 rfl rfl ?_
        refine lm_iload C dL_isGone_61 6 rfl rfl ?_
        refine lm_if_eq C (tgt := 70) dL_isGone_63 (by decide) rfl (fun c49 => ?_) (fun c49 => ?_)
        · exact (by simp_all : False).elim
        · refine lm_iconst C (v := (5 : Int32)) dL_isGone_66 (by decide) rfl ?_
          refine lm_goto C (tgt := 72) dL_isGone_67 (by decide) ?_
          refine lm_dup2 C dL_isGone_72 rfl rfl rfl ?_
          refine lm_iald C (v := (h 9 0 5)) 141 rfl (by unfold vp_in; decide) rfl dL_isGone_73 rfl ?_
          refine lm_iconst C (v := (1 : Int32)) dL_isGone_74 (by decide) rfl ?_
          refine lm_isub C dL_isGone_75 rfl rfl ?_
          obtain ⟨h50, eh50, hF⟩ := lm_lte hF
          refine lm_iast C (w' := (lwMW z zo m a b h50)) 141 rfl (by unfold vp_in; decide) dL_isGone_76 (by rw [← eh50]; rfl) rfl ?_
          refine lm_iconst C (v := (2 : Int32)) dL_isGone_77 (by decide) rfl ?_
          refine lm_iload C dL_isGone_78 7 rfl rfl ?_
          refine lm_imul C dL_isGone_80 rfl rfl ?_
          refine lm_istore C (lv' := [(0, .ref (m 0)), (1, .ref (b 0)), (2, .ref (b 1)), (3, .ref (b 2)), (4, .ref (b 3)), (5, .ref (b 4)), (6, .int x6), (7, .int x7), (8, .int t48), (9, .int ((2 : Int32) * x7))]) dL_isGone_81 (by decide) rfl [1, 2, 3, 4, 5, 6, 7, 8, 9, 0] rfl rfl ?_
          exact loop_83 1000 h50 x6 x7 t48 ((2 : Int32) * x7) hF
    · have hF := lm_brf hF c45
      refine lm_aload_n C dL_isGone_20 rfl 0 rfl rfl ?_
      refine lm_iload C dL_isGone_21 6 rfl rfl ?_
      refine lm_iload C dL_isGone_23 7 rfl rfl ?_
      obtain ⟨r52, h51, qh51, hF⟩ := lm_b2e hF
      obtain ⟨h53, eh53, hF⟩ := lm_lte hF
      refine lm_callV C (n := 2) (ci := 6) (w' := (lwMW z zo m a b h53)) hA (m_X6_drop D z zo l m a h x6 x7 r52 h51 qh51) gL_isGone_X6_drop rfl (by decide +kernel) ⟨Nat.le_of_ble_eq_true rfl, Nat.le_of_ble_eq_true rfl⟩ ⟨Nat.le_of_ble_eq_true rfl, Nat.le_of_ble_eq_true rfl⟩ 0 rfl rfl (lw_gm z zo m a b h) (by rw [← eh53]; exact lw_pm z zo m a b h h51) rfl rfl (Nat.le_of_ble_eq_true rfl) dL_isGone_25 (st' := [.int r52]) rfl rfl ?_
      refine lm_iconst C (v := (-1 : Int32)) dL_isGone_28 (by decide) rfl ?_
      refine lm_icmp_ne C (tgt := 36) dL_isGone_29 (by decide) rfl (fun c54 => ?_) (fun c54 => ?_)
      · have hF := lm_brt hF c54
        refine lm_iconst C (v := (0 : Int32)) dL_isGone_36 (by decide) rfl ?_
        cases hF
        exact lm_zret C hr hk rfl rfl rfl dL_isGone_37
      · have hF := lm_brf hF c54
        refine lm_iconst C (v := (1 : Int32)) dL_isGone_32 (by decide) rfl ?_
        refine lm_goto C (tgt := 37) dL_isGone_33 (by decide) ?_
        cases hF
        exact lm_zret C hr hk rfl rfl rfl dL_isGone_37
set_option maxRecDepth 100000 in
set_option maxHeartbeats 4000000 in
theorem m_L_isSet (D : va_G) (z zo : ClassId) (l : Launch) (m : Nat → Nat) (a : Nat → Nat → Nat) (b : Nat → Nat) (h : Nat → Hp) (x6 x7 : Int32) (r : Int32) (h' : Nat → Hp) (hF : F_L_isSet h x6 x7 = some (r, h')) : lm_C D z zo l yL_isSet wsL_isSet 6 147 [.ref (m 0), .ref (b 0), .ref (b 1), .ref (b 3), .ref (b 4), .ref (b 5), .int x6, .int x7] (lwMW z zo m a b h) (some (.int r)) (lwMW z zo m a b h') := by
  refine lm_C.of (by decide) rfl (Nat.le_of_ble_eq_true rfl) (own := RL) rfl ?_
  intro p e s m_ args below meth c C hr hk hA
  show lm_St p l e ({ frames := 6, cells := 0, slots := 0, locals := 147 }) s m_ args below meth c D (va_A (lwMW z zo m a b h) s.heap.size) 10 0 0 (lm_End below D (some (.int r)) (lwMW z zo m a b h) (lwMW z zo m a b h') args s) false (lwMW z zo m a b h) 0 [(0, .ref (m 0)), (1, .ref (b 0)), (2, .ref (b 1)), (3, .ref (b 3)), (4, .ref (b 4)), (5, .ref (b 5)), (6, .int x6), (7, .int x7)] []
  rw [F_L_isSet] at hF
  refine lm_iload C dL_isSet_0 6 rfl rfl ?_
  refine lm_if_ne C (tgt := 13) dL_isSet_2 (by decide) rfl (fun c1 => ?_) (fun c1 => ?_)
  · have hF := lm_brt hF c1
    refine lm_iload C dL_isSet_13 6 rfl rfl ?_
    refine lm_iconst C (v := (3 : Int32)) dL_isSet_15 (by decide) rfl ?_
    refine lm_icmp_ge C (tgt := 26) dL_isSet_16 (by decide) rfl (fun c2 => ?_) (fun c2 => ?_)
    · have hF := lm_brt hF c2
      refine lm_iload C dL_isSet_26 6 rfl rfl ?_
      refine lm_iconst C (v := (3 : Int32)) dL_isSet_28 (by decide) rfl ?_
      refine lm_icmp_ne C (tgt := 40) dL_isSet_29 (by decide) rfl (fun c3 => ?_) (fun c3 => ?_)
      · have hF := lm_brt hF c3
        refine lm_bipush C (v := (99 : Int32)) dL_isSet_40 (by decide) rfl ?_
        refine lm_iload C dL_isSet_42 7 rfl rfl ?_
        refine lm_bipush C (v := (40 : Int32)) dL_isSet_44 (by decide) rfl ?_
        refine lm_irem C dL_isSet_46 (by decide) rfl rfl ?_
        refine lm_isub C dL_isSet_47 rfl rfl ?_
        obtain ⟨t4, et4, hF⟩ := lm_lte hF
        rw [et4]
        refine lm_istore C (lv' := [(0, .ref (m 0)), (1, .ref (b 0)), (2, .ref (b 1)), (3, .ref (b 3)), (4, .ref (b 4)), (5, .ref (b 5)), (6, .int x6), (7, .int x7), (8, .int t4)]) dL_isSet_48 (by decide) rfl [1, 2, 3, 4, 5, 6, 7, 8, 0] rfl rfl ?_
        refine lm_aload_n C dL_isSet_50 rfl 1 rfl rfl ?_
        refine lm_iload C dL_isSet_51 6 rfl rfl ?_
        refine lm_iload C dL_isSet_53 8 rfl rfl ?_
        obtain ⟨b14, hF⟩ := lm_gie hF
        obtain ⟨h5, eh5, hF⟩ := lm_lte hF
        refine lm_iast C (w' := (lwMW z zo m a b h5)) 141 rfl b14 dL_isSet_55 (by rw [← eh5]; rfl) rfl ?_
        refine lm_iload C dL_isSet_56 6 rfl rfl ?_
        refine lm_if_ne C (tgt := 75) dL_isSet_58 (by decide) rfl (fun c6 => ?_) (fun c6 => ?_)
        · refine lm_aload_n C dL_isSet_75 rfl 1 rfl rfl ?_
          refine lm_aload_n C dL_isSet_76 rfl 3 rfl rfl ?_
          refine lm_aload C dL_isSet_77 4 rfl rfl ?_
          refine lm_iconst C (v := (-1 : Int32)) dL_isSet_79 (by decide) rfl ?_
          obtain ⟨r8, τ7, qτ7, hF⟩ := lm_b2e hF
          obtain ⟨h9, eh9, hF⟩ := lm_lte hF
          refine lm_callS C (n := 4) (w' := (lwMW z zo m a b h9)) hA (m_L_goes D z zo l b (h5 9) (-1 : Int32) r8 τ7 qτ7) gL_isSet_L_goes rfl (by decide +kernel) ⟨Nat.le_of_ble_eq_true rfl, Nat.le_of_ble_eq_true rfl⟩ ⟨Nat.le_of_ble_eq_true rfl, Nat.le_of_ble_eq_true rfl⟩ (lw_g6 z zo m a b h5) (by rw [← eh9]; exact lw_q6 z zo m a b h5 τ7) rfl rfl (Nat.le_of_ble_eq_true rfl) dL_isSet_80 (st' := [.int r8]) rfl rfl ?_
          refine lm_istore C (lv' := [(0, .ref (m 0)), (1, .ref (b 0)), (2, .ref (b 1)), (3, .ref (b 3)), (4, .ref (b 4)), (5, .ref (b 5)), (6, .int x6), (7, .int x7), (8, .int t4), (9, .int r8)]) dL_isSet_83 (by decide) rfl [1, 2, 3, 4, 5, 6, 7, 8, 9, 0] rfl rfl ?_
          refine lm_aload_n C dL_isSet_85 rfl 0 rfl rfl ?_
          refine lm_iload C dL_isSet_86 6 rfl rfl ?_
          refine lm_iload C dL_isSet_88 8 rfl rfl ?_
          obtain ⟨r11, h10, qh10, hF⟩ := lm_b2e hF
          obtain ⟨h12, eh12, hF⟩ := lm_lte hF
          refine lm_callV C (n := 2) (ci := 6) (w' := (lwMW z zo m a b h12)) hA (m_X6_set D z zo l m a h9 x6 t4 r11 h10 qh10) gL_isSet_X6_set rfl (by decide +kernel) ⟨Nat.le_of_ble_eq_true rfl, Nat.le_of_ble_eq_true rfl⟩ ⟨Nat.le_of_ble_eq_true rfl, Nat.le_of_ble_eq_true rfl⟩ 0 rfl rfl (lw_gm z zo m a b h9) (by rw [← eh12]; exact lw_pm z zo m a b h9 h10) rfl rfl (Nat.le_of_ble_eq_true rfl) dL_isSet_90 (st' := [.int r11]) rfl rfl ?_
          refine lm_iload C dL_isSet_93 9 rfl rfl ?_
          refine lm_icmp_ne C (tgt := 102) dL_isSet_95 (by decide) rfl (fun c13 => ?_) (fun c13 => ?_)
          · have hF := lm_brt hF c13
            refine lm_iconst C (v := (0 : Int32)) dL_isSet_102 (by decide) rfl ?_
            cases hF
            exact lm_zret C hr hk rfl rfl rfl dL_isSet_103
          · have hF := lm_brf hF c13
            refine lm_iconst C (v := (1 : Int32)) dL_isSet_98 (by decide) rfl ?_
            refine lm_goto C (tgt := 103) dL_isSet_99 (by decide) ?_
            cases hF
            exact lm_zret C hr hk rfl rfl rfl dL_isSet_103
        · exact (by simp_all : False).elim
      · have hF := lm_brf hF c3
        refine lm_iload C dL_isSet_32 7 rfl rfl ?_
        refine lm_bipush C (v := (40 : Int32)) dL_isSet_34 (by decide) rfl ?_
        refine lm_irem C dL_isSet_36 (by decide) rfl rfl ?_
        refine lm_goto C (tgt := 48) dL_isSet_37 (by decide) ?_
        obtain ⟨t15, et15, hF⟩ := lm_lte hF
        rw [et15]
        refine lm_istore C (lv' := [(0, .ref (m 0)), (1, .ref (b 0)), (2, .ref (b 1)), (3, .ref (b 3)), (4, .ref (b 4)), (5, .ref (b 5)), (6, .int x6), (7, .int x7), (8, .int t15)]) dL_isSet_48 (by decide) rfl [1, 2, 3, 4, 5, 6, 7, 8, 0] rfl rfl ?_
        refine lm_aload_n C dL_isSet_50 rfl 1 rfl rfl ?_
        refine lm_iload C dL_isSet_51 6 rfl rfl ?_
        refine lm_iload C dL_isSet_53 8 rfl rfl ?_
        obtain ⟨b25, hF⟩ := lm_gie hF
        obtain ⟨h16, eh16, hF⟩ := lm_lte hF
        refine lm_iast C (w' := (lwMW z zo m a b h16)) 141 rfl b25 dL_isSet_55 (by rw [← eh16]; rfl) rfl ?_
        refine lm_iload C dL_isSet_56 6 rfl rfl ?_
        refine lm_if_ne C (tgt := 75) dL_isSet_58 (by decide) rfl (fun c17 => ?_) (fun c17 => ?_)
        · refine lm_aload_n C dL_isSet_75 rfl 1 rfl rfl ?_
          refine lm_aload_n C dL_isSet_76 rfl 3 rfl rfl ?_
          refine lm_aload C dL_isSet_77 4 rfl rfl ?_
          refine lm_iconst C (v := (-1 : Int32)) dL_isSet_79 (by decide) rfl ?_
          obtain ⟨r19, τ18, qτ18, hF⟩ := lm_b2e hF
          obtain ⟨h20, eh20, hF⟩ := lm_lte hF
          refine lm_callS C (n := 4) (w' := (lwMW z zo m a b h20)) hA (m_L_goes D z zo l b (h16 9) (-1 : Int32) r19 τ18 qτ18) gL_isSet_L_goes rfl (by decide +kernel) ⟨Nat.le_of_ble_eq_true rfl, Nat.le_of_ble_eq_true rfl⟩ ⟨Nat.le_of_ble_eq_true rfl, Nat.le_of_ble_eq_true rfl⟩ (lw_g6 z zo m a b h16) (by rw [← eh20]; exact lw_q6 z zo m a b h16 τ18) rfl rfl (Nat.le_of_ble_eq_true rfl) dL_isSet_80 (st' := [.int r19]) rfl rfl ?_
          refine lm_istore C (lv' := [(0, .ref (m 0)), (1, .ref (b 0)), (2, .ref (b 1)), (3, .ref (b 3)), (4, .ref (b 4)), (5, .ref (b 5)), (6, .int x6), (7, .int x7), (8, .int t15), (9, .int r19)]) dL_isSet_83 (by decide) rfl [1, 2, 3, 4, 5, 6, 7, 8, 9, 0] rfl rfl ?_
          refine lm_aload_n C dL_isSet_85 rfl 0 rfl rfl ?_
          refine lm_iload C dL_isSet_86 6 rfl rfl ?_
          refine lm_iload C dL_isSet_88 8 rfl rfl ?_
          obtain ⟨r22, h21, qh21, hF⟩ := lm_b2e hF
          obtain ⟨h23, eh23, hF⟩ := lm_lte hF
          refine lm_callV C (n := 2) (ci := 6) (w' := (lwMW z zo m a b h23)) hA (m_X6_set D z zo l m a h20 x6 t15 r22 h21 qh21) gL_isSet_X6_set rfl (by decide +kernel) ⟨Nat.le_of_ble_eq_true rfl, Nat.le_of_ble_eq_true rfl⟩ ⟨Nat.le_of_ble_eq_true rfl, Nat.le_of_ble_eq_true rfl⟩ 0 rfl rfl (lw_gm z zo m a b h20) (by rw [← eh23]; exact lw_pm z zo m a b h20 h21) rfl rfl (Nat.le_of_ble_eq_true rfl) dL_isSet_90 (st' := [.int r22]) rfl rfl ?_
          refine lm_iload C dL_isSet_93 9 rfl rfl ?_
          refine lm_icmp_ne C (tgt := 102) dL_isSet_95 (by decide) rfl (fun c24 => ?_) (fun c24 => ?_)
          · have hF := lm_brt hF c24
            refine lm_iconst C (v := (0 : Int32)) dL_isSet_102 (by decide) rfl ?_
            cases hF
            exact lm_zret C hr hk rfl rfl rfl dL_isSet_103
          · have hF := lm_brf hF c24
            refine lm_iconst C (v := (1 : Int32)) dL_isSet_98 (by decide) rfl ?_
            refine lm_goto C (tgt := 103) dL_isSet_99 (by decide) ?_
            cases hF
            exact lm_zret C hr hk rfl rfl rfl dL_isSet_103
        · exact (by simp_all : False).elim
    · have hF := lm_brf hF c2
      refine lm_iload C dL_isSet_19 7 rfl rfl ?_
      refine lm_iconst C (v := (3 : Int32)) dL_isSet_21 (by decide) rfl ?_
      refine lm_irem C dL_isSet_22 (by decide) rfl rfl ?_
      refine lm_goto C (tgt := 48) dL_isSet_23 (by decide) ?_
      obtain ⟨t26, et26, hF⟩ := lm_lte hF
      rw [et26]
      refine lm_istore C (lv' := [(0, .ref (m 0)), (1, .ref (b 0)), (2, .ref (b 1)), (3, .ref (b 3)), (4, .ref (b 4)), (5, .ref (b 5)), (6, .int x6), (7, .int x7), (8, .int t26)]) dL_isSet_48 (by decide) rfl [1, 2, 3, 4, 5, 6, 7, 8, 0] rfl rfl ?_
      refine lm_aload_n C dL_isSet_50 rfl 1 rfl rfl ?_
      refine lm_iload C dL_isSet_51 6 rfl rfl ?_
      refine lm_iload C dL_isSet_53 8 rfl rfl ?_
      obtain ⟨b36, hF⟩ := lm_gie hF
      obtain ⟨h27, eh27, hF⟩ := lm_lte hF
      refine lm_iast C (w' := (lwMW z zo m a b h27)) 141 rfl b36 dL_isSet_55 (by rw [← eh27]; rfl) rfl ?_
      refine lm_iload C dL_isSet_56 6 rfl rfl ?_
      refine lm_if_ne C (tgt := 75) dL_isSet_58 (by decide) rfl (fun c28 => ?_) (fun c28 => ?_)
      · refine lm_aload_n C dL_isSet_75 rfl 1 rfl rfl ?_
        refine lm_aload_n C dL_isSet_76 rfl 3 rfl rfl ?_
        refine lm_aload C dL_isSet_77 4 rfl rfl ?_
        refine lm_iconst C (v := (-1 : Int32)) dL_isSet_79 (by decide) rfl ?_
        obtain ⟨r30, τ29, qτ29, hF⟩ := lm_b2e hF
        obtain ⟨h31, eh31, hF⟩ := lm_lte hF
        refine lm_callS C (n := 4) (w' := (lwMW z zo m a b h31)) hA (m_L_goes D z zo l b (h27 9) (-1 : Int32) r30 τ29 qτ29) gL_isSet_L_goes rfl (by decide +kernel) ⟨Nat.le_of_ble_eq_true rfl, Nat.le_of_ble_eq_true rfl⟩ ⟨Nat.le_of_ble_eq_true rfl, Nat.le_of_ble_eq_true rfl⟩ (lw_g6 z zo m a b h27) (by rw [← eh31]; exact lw_q6 z zo m a b h27 τ29) rfl rfl (Nat.le_of_ble_eq_true rfl) dL_isSet_80 (st' := [.int r30]) rfl rfl ?_
        refine lm_istore C (lv' := [(0, .ref (m 0)), (1, .ref (b 0)), (2, .ref (b 1)), (3, .ref (b 3)), (4, .ref (b 4)), (5, .ref (b 5)), (6, .int x6), (7, .int x7), (8, .int t26), (9, .int r30)]) dL_isSet_83 (by decide) rfl [1, 2, 3, 4, 5, 6, 7, 8, 9, 0] rfl rfl ?_
        refine lm_aload_n C dL_isSet_85 rfl 0 rfl rfl ?_
        refine lm_iload C dL_isSet_86 6 rfl rfl ?_
        refine lm_iload C dL_isSet_88 8 rfl rfl ?_
        obtain ⟨r33, h32, qh32, hF⟩ := lm_b2e hF
        obtain ⟨h34, eh34, hF⟩ := lm_lte hF
        refine lm_callV C (n := 2) (ci := 6) (w' := (lwMW z zo m a b h34)) hA (m_X6_set D z zo l m a h31 x6 t26 r33 h32 qh32) gL_isSet_X6_set rfl (by decide +kernel) ⟨Nat.le_of_ble_eq_true rfl, Nat.le_of_ble_eq_true rfl⟩ ⟨Nat.le_of_ble_eq_true rfl, Nat.le_of_ble_eq_true rfl⟩ 0 rfl rfl (lw_gm z zo m a b h31) (by rw [← eh34]; exact lw_pm z zo m a b h31 h32) rfl rfl (Nat.le_of_ble_eq_true rfl) dL_isSet_90 (st' := [.int r33]) rfl rfl ?_
        refine lm_iload C dL_isSet_93 9 rfl rfl ?_
        refine lm_icmp_ne C (tgt := 102) dL_isSet_95 (by decide) rfl (fun c35 => ?_) (fun c35 => ?_)
        · have hF := lm_brt hF c35
          refine lm_iconst C (v := (0 : Int32)) dL_isSet_102 (by decide) rfl ?_
          cases hF
          exact lm_zret C hr hk rfl rfl rfl dL_isSet_103
        · have hF := lm_brf hF c35
          refine lm_iconst C (v := (1 : Int32)) dL_isSet_98 (by decide) rfl ?_
          refine lm_goto C (tgt := 103) dL_isSet_99 (by decide) ?_
          cases hF
          exact lm_zret C hr hk rfl rfl rfl dL_isSet_103
      · exact (by simp_all : False).elim
  · have hF := lm_brf hF c1
    refine lm_iload C dL_isSet_5 7 rfl rfl ?_
    refine lm_bipush C (v := (61 : Int32)) dL_isSet_7 (by decide) rfl ?_
    refine lm_irem C dL_isSet_9 (by decide) rfl rfl ?_
    refine lm_goto C (tgt := 48) dL_isSet_10 (by decide) ?_
    obtain ⟨t37, et37, hF⟩ := lm_lte hF
    rw [et37]
    refine lm_istore C (lv' := [(0, .ref (m 0)), (1, .ref (b 0)), (2, .ref (b 1)), (3, .ref (b 3)), (4, .ref (b 4)), (5, .ref (b 5)), (6, .int x6), (7, .int x7), (8, .int t37)]) dL_isSet_48 (by decide) rfl [1, 2, 3, 4, 5, 6, 7, 8, 0] rfl rfl ?_
    refine lm_aload_n C dL_isSet_50 rfl 1 rfl rfl ?_
    refine lm_iload C dL_isSet_51 6 rfl rfl ?_
    refine lm_iload C dL_isSet_53 8 rfl rfl ?_
    obtain ⟨b47, hF⟩ := lm_gie hF
    obtain ⟨h38, eh38, hF⟩ := lm_lte hF
    refine lm_iast C (w' := (lwMW z zo m a b h38)) 141 rfl b47 dL_isSet_55 (by rw [← eh38]; rfl) rfl ?_
    refine lm_iload C dL_isSet_56 6 rfl rfl ?_
    refine lm_if_ne C (tgt := 75) dL_isSet_58 (by decide) rfl (fun c39 => ?_) (fun c39 => ?_)
    · exact (by simp_all : False).elim
    · refine lm_aload_n C dL_isSet_61 rfl 1 rfl rfl ?_
      refine lm_aload_n C dL_isSet_62 rfl 2 rfl rfl ?_
      refine lm_aload_n C dL_isSet_63 rfl 3 rfl rfl ?_
      refine lm_aload C dL_isSet_64 4 rfl rfl ?_
      refine lm_aload C dL_isSet_66 5 rfl rfl ?_
      refine lm_iconst C (v := (-1 : Int32)) dL_isSet_68 (by decide) rfl ?_
      obtain ⟨r41, τ40, qτ40, hF⟩ := lm_b2e hF
      obtain ⟨h42, eh42, hF⟩ := lm_lte hF
      refine lm_callS C (n := 6) (w' := (lwMW z zo m a b h42)) hA (m_L_room D z zo l b (h38 9) (-1 : Int32) r41 τ40 qτ40) gL_isSet_L_room rfl (by decide +kernel) ⟨Nat.le_of_ble_eq_true rfl, Nat.le_of_ble_eq_true rfl⟩ ⟨Nat.le_of_ble_eq_true rfl, Nat.le_of_ble_eq_true rfl⟩ (lw_g6 z zo m a b h38) (by rw [← eh42]; exact lw_q6 z zo m a b h38 τ40) rfl rfl (Nat.le_of_ble_eq_true rfl) dL_isSet_69 (st' := [.int r41]) rfl rfl ?_
      refine lm_goto C (tgt := 83) dL_isSet_72 (by decide) ?_
      refine lm_istore C (lv' := [(0, .ref (m 0)), (1, .ref (b 0)), (2, .ref (b 1)), (3, .ref (b 3)), (4, .ref (b 4)), (5, .ref (b 5)), (6, .int x6), (7, .int x7), (8, .int t37), (9, .int r41)]) dL_isSet_83 (by decide) rfl [1, 2, 3, 4, 5, 6, 7, 8, 9, 0] rfl rfl ?_
      refine lm_aload_n C dL_isSet_85 rfl 0 rfl rfl ?_
      refine lm_iload C dL_isSet_86 6 rfl rfl ?_
      refine lm_iload C dL_isSet_88 8 rfl rfl ?_
      obtain ⟨r44, h43, qh43, hF⟩ := lm_b2e hF
      obtain ⟨h45, eh45, hF⟩ := lm_lte hF
      refine lm_callV C (n := 2) (ci := 6) (w' := (lwMW z zo m a b h45)) hA (m_X6_set D z zo l m a h42 x6 t37 r44 h43 qh43) gL_isSet_X6_set rfl (by decide +kernel) ⟨Nat.le_of_ble_eq_true rfl, Nat.le_of_ble_eq_true rfl⟩ ⟨Nat.le_of_ble_eq_true rfl, Nat.le_of_ble_eq_true rfl⟩ 0 rfl rfl (lw_gm z zo m a b h42) (by rw [← eh45]; exact lw_pm z zo m a b h42 h43) rfl rfl (Nat.le_of_ble_eq_true rfl) dL_isSet_90 (st' := [.int r44]) rfl rfl ?_
      refine lm_iload C dL_isSet_93 9 rfl rfl ?_
      refine lm_icmp_ne C (tgt := 102) dL_isSet_95 (by decide) rfl (fun c46 => ?_) (fun c46 => ?_)
      · have hF := lm_brt hF c46
        refine lm_iconst C (v := (0 : Int32)) dL_isSet_102 (by decide) rfl ?_
        cases hF
        exact lm_zret C hr hk rfl rfl rfl dL_isSet_103
      · have hF := lm_brf hF c46
        refine lm_iconst C (v := (1 : Int32)) dL_isSet_98 (by decide) rfl ?_
        refine lm_goto C (tgt := 103) dL_isSet_99 (by decide) ?_
        cases hF
        exact lm_zret C hr hk rfl rfl rfl dL_isSet_103
set_option maxRecDepth 100000 in
set_option maxHeartbeats 4000000 in
theorem m_L_isActed (D : va_G) (z zo : ClassId) (l : Launch) (m : Nat → Nat) (a : Nat → Nat → Nat) (b : Nat → Nat) (h : Nat → Hp) (x7 x8 : Int32) (r : Int32) (h' : Nat → Hp) (hF : F_L_isActed h x7 x8 = some (r, h')) : lm_C D z zo l yL_isActed wsL_isActed 7 178 [.ref (m 0), .ref (b 0), .ref (b 1), .ref (b 2), .ref (b 3), .ref (b 4), .ref (b 5), .int x7, .int x8] (lwMW z zo m a b h) (some (.int r)) (lwMW z zo m a b h') := by
  refine lm_C.of (by decide) rfl (Nat.le_of_ble_eq_true rfl) (own := RL) rfl ?_
  intro p e s m_ args below meth c C hr hk hA
  show lm_St p l e ({ frames := 7, cells := 0, slots := 0, locals := 178 }) s m_ args below meth c D (va_A (lwMW z zo m a b h) s.heap.size) 12 0 0 (lm_End below D (some (.int r)) (lwMW z zo m a b h) (lwMW z zo m a b h') args s) false (lwMW z zo m a b h) 0 [(0, .ref (m 0)), (1, .ref (b 0)), (2, .ref (b 1)), (3, .ref (b 2)), (4, .ref (b 3)), (5, .ref (b 4)), (6, .ref (b 5)), (7, .int x7), (8, .int x8)] []
  rw [F_L_isActed] at hF
  refine lm_iload C dL_isActed_0 7 rfl rfl ?_
  refine lm_bipush C (v := (7 : Int32)) dL_isActed_2 (by decide) rfl ?_
  refine lm_icmp_ge C (tgt := 32) dL_isActed_4 (by decide) rfl (fun c1 => ?_) (fun c1 => ?_)
  · have hF := lm_brt hF c1
    refine lm_iload C dL_isActed_32 7 rfl rfl ?_
    refine lm_bipush C (v := (9 : Int32)) dL_isActed_34 (by decide) rfl ?_
    refine lm_icmp_ge C (tgt := 68) dL_isActed_36 (by decide) rfl (fun c2 => ?_) (fun c2 => ?_)
    · have hF := lm_brt hF c2
      refine lm_iload C dL_isActed_68 7 rfl rfl ?_
      refine lm_bipush C (v := (9 : Int32)) dL_isActed_70 (by decide) rfl ?_
      refine lm_icmp_ne C (tgt := 193) dL_isActed_72 (by decide) rfl (fun c3 => ?_) (fun c3 => ?_)
      · have hF := lm_brt hF c3
        refine lm_iload C dL_isActed_193 7 rfl rfl ?_
        refine lm_bipush C (v := (17 : Int32)) dL_isActed_195 (by decide) rfl ?_
        refine lm_icmp_ge C (tgt := 258) dL_isActed_197 (by decide) rfl (fun c4 => ?_) (fun c4 => ?_)
        · have hF := lm_brt hF c4
          refine lm_iload C dL_isActed_258 7 rfl rfl ?_
          refine lm_bipush C (v := (19 : Int32)) dL_isActed_260 (by decide) rfl ?_
          refine lm_icmp_ge C (tgt := 296) dL_isActed_262 (by decide) rfl (fun c5 => ?_) (fun c5 => ?_)
          · have hF := lm_brt hF c5
            refine lm_iload C dL_isActed_296 7 rfl rfl ?_
            refine lm_bipush C (v := (19 : Int32)) dL_isActed_298 (by decide) rfl ?_
            refine lm_icmp_ne C (tgt := 336) dL_isActed_300 (by decide) rfl (fun c6 => ?_) (fun c6 => ?_)
            · have hF := lm_brt hF c6
              refine lm_aload_n C dL_isActed_336 rfl 0 rfl rfl ?_
              refine lm_aload_n C dL_isActed_337 rfl 1 rfl rfl ?_
              refine lm_aload_n C dL_isActed_338 rfl 2 rfl rfl ?_
              refine lm_aload C dL_isActed_339 4 rfl rfl ?_
              refine lm_aload C dL_isActed_341 5 rfl rfl ?_
              refine lm_aload C dL_isActed_343 6 rfl rfl ?_
              refine lm_iload C dL_isActed_345 8 rfl rfl ?_
              refine lm_iconst C (v := (5 : Int32)) dL_isActed_347 (by decide) rfl ?_
              refine lm_irem C dL_isActed_348 (by decide) rfl rfl ?_
              refine lm_iload C dL_isActed_349 8 rfl rfl ?_
              refine lm_iconst C (v := (5 : Int32)) dL_isActed_351 (by decide) rfl ?_
              refine lm_idiv C dL_isActed_352 (by decide) rfl rfl ?_
              obtain ⟨r8, h7, qh7, hF⟩ := lm_b2e hF
              refine lm_callS C (n := 8) (w' := (lwMW z zo m a b h7)) hA (m_L_isSet D z zo l m a b h (x8 - x8 / (5 : Int32) * (5 : Int32)) (x8 / (5 : Int32)) r8 h7 qh7) gL_isActed_L_isSet rfl (by decide +kernel) ⟨Nat.le_of_ble_eq_true rfl, Nat.le_of_ble_eq_true rfl⟩ ⟨Nat.le_of_ble_eq_true rfl, Nat.le_of_ble_eq_true rfl⟩ lm_pr lm_pr' rfl rfl (Nat.le_of_ble_eq_true rfl) dL_isActed_353 (st' := [.int r8]) rfl rfl ?_
              obtain ⟨c9, hF⟩ := lm_gde hF
              cases hF
              exact lm_zret C hr hk (lm_boolok c9) rfl rfl dL_isActed_356
            · have hF := lm_brf hF c6
              refine lm_iload C dL_isActed_303 8 rfl rfl ?_
              refine lm_iconst C (v := (3 : Int32)) dL_isActed_305 (by decide) rfl ?_
              refine lm_irem C dL_isActed_306 (by decide) rfl rfl ?_
              refine lm_if_ne C (tgt := 336) dL_isActed_307 (by decide) rfl (fun c10 => ?_) (fun c10 => ?_)
              · have hF := lm_brt hF c10
                refine lm_aload_n C dL_isActed_336 rfl 0 rfl rfl ?_
                refine lm_aload_n C dL_isActed_337 rfl 1 rfl rfl ?_
                refine lm_aload_n C dL_isActed_338 rfl 2 rfl rfl ?_
                refine lm_aload C dL_isActed_339 4 rfl rfl ?_
                refine lm_aload C dL_isActed_341 5 rfl rfl ?_
                refine lm_aload C dL_isActed_343 6 rfl rfl ?_
                refine lm_iload C dL_isActed_345 8 rfl rfl ?_
                refine lm_iconst C (v := (5 : Int32)) dL_isActed_347 (by decide) rfl ?_
                refine lm_irem C dL_isActed_348 (by decide) rfl rfl ?_
                refine lm_iload C dL_isActed_349 8 rfl rfl ?_
                refine lm_iconst C (v := (5 : Int32)) dL_isActed_351 (by decide) rfl ?_
                refine lm_idiv C dL_isActed_352 (by decide) rfl rfl ?_
                obtain ⟨r12, h11, qh11, hF⟩ := lm_b2e hF
                refine lm_callS C (n := 8) (w' := (lwMW z zo m a b h11)) hA (m_L_isSet D z zo l m a b h (x8 - x8 / (5 : Int32) * (5 : Int32)) (x8 / (5 : Int32)) r12 h11 qh11) gL_isActed_L_isSet rfl (by decide +kernel) ⟨Nat.le_of_ble_eq_true rfl, Nat.le_of_ble_eq_true rfl⟩ ⟨Nat.le_of_ble_eq_true rfl, Nat.le_of_ble_eq_true rfl⟩ lm_pr lm_pr' rfl rfl (Nat.le_of_ble_eq_true rfl) dL_isActed_353 (st' := [.int r12]) rfl rfl ?_
                obtain ⟨c13, hF⟩ := lm_gde hF
                cases hF
                exact lm_zret C hr hk (lm_boolok c13) rfl rfl dL_isActed_356
              · have hF := lm_brf hF c10
                refine lm_aload_n C dL_isActed_310 rfl 1 rfl rfl ?_
                refine lm_aload C dL_isActed_311 4 rfl rfl ?_
                refine lm_aload C dL_isActed_313 5 rfl rfl ?_
                refine lm_iconst C (v := (-1 : Int32)) dL_isActed_315 (by decide) rfl ?_
                obtain ⟨r15, τ14, qτ14, hF⟩ := lm_b2e hF
                obtain ⟨h16, eh16, hF⟩ := lm_lte hF
                refine lm_callS C (n := 4) (w' := (lwMW z zo m a b h16)) hA (m_L_goes D z zo l b (h 9) (-1 : Int32) r15 τ14 qτ14) gL_isActed_L_goes rfl (by decide +kernel) ⟨Nat.le_of_ble_eq_true rfl, Nat.le_of_ble_eq_true rfl⟩ ⟨Nat.le_of_ble_eq_true rfl, Nat.le_of_ble_eq_true rfl⟩ (lw_g6 z zo m a b h) (by rw [← eh16]; exact lw_q6 z zo m a b h τ14) rfl rfl (Nat.le_of_ble_eq_true rfl) dL_isActed_316 (st' := [.int r15]) rfl rfl ?_
                refine lm_istore C (lv' := [(0, .ref (m 0)), (1, .ref (b 0)), (2, .ref (b 1)), (3, .ref (b 2)), (4, .ref (b 3)), (5, .ref (b 4)), (6, .ref (b 5)), (7, .int x7), (8, .int x8), (9, .int r15)]) dL_isActed_319 (by decide) rfl [1, 2, 3, 4, 5, 6, 7, 8, 9, 0] rfl rfl ?_
                refine lm_aload_n C dL_isActed_321 rfl 0 rfl rfl ?_
                obtain ⟨r18, h17, qh17, hF⟩ := lm_b2e hF
                obtain ⟨h19, eh19, hF⟩ := lm_lte hF
                refine lm_callV C (n := 0) (ci := 6) (w' := (lwMW z zo m a b h19)) hA (m_X6_forget D z zo l m a h16 r18 h17 qh17) gL_isActed_X6_forget rfl (by decide +kernel) ⟨Nat.le_of_ble_eq_true rfl, Nat.le_of_ble_eq_true rfl⟩ ⟨Nat.le_of_ble_eq_true rfl, Nat.le_of_ble_eq_true rfl⟩ 0 rfl rfl (lw_gm z zo m a b h16) (by rw [← eh19]; exact lw_pm z zo m a b h16 h17) rfl rfl (Nat.le_of_ble_eq_true rfl) dL_isActed_322 (st' := [.int r18]) rfl rfl ?_
                refine lm_iload C dL_isActed_325 9 rfl rfl ?_
                refine lm_icmp_ne C (tgt := 334) dL_isActed_327 (by decide) rfl (fun c20 => ?_) (fun c20 => ?_)
                · have hF := lm_brt hF c20
                  refine lm_iconst C (v := (0 : Int32)) dL_isActed_334 (by decide) rfl ?_
                  cases hF
                  exact lm_zret C hr hk rfl rfl rfl dL_isActed_335
                · have hF := lm_brf hF c20
                  refine lm_iconst C (v := (1 : Int32)) dL_isActed_330 (by decide) rfl ?_
                  refine lm_goto C (tgt := 335) dL_isActed_331 (by decide) ?_
                  cases hF
                  exact lm_zret C hr hk rfl rfl rfl dL_isActed_335
          · have hF := lm_brf hF c5
            refine lm_aload_n C dL_isActed_265 rfl 1 rfl rfl ?_
            refine lm_bipush C (v := (8 : Int32)) dL_isActed_266 (by decide) rfl ?_
            refine lm_iald C (v := (h 9 0 8)) 141 rfl (by unfold vp_in; decide) rfl dL_isActed_268 rfl ?_
            refine lm_istore C (lv' := [(0, .ref (m 0)), (1, .ref (b 0)), (2, .ref (b 1)), (3, .ref (b 2)), (4, .ref (b 3)), (5, .ref (b 4)), (6, .ref (b 5)), (7, .int x7), (8, .int x8), (9, .int (h 9 0 8))]) dL_isActed_269 (by decide) rfl [1, 2, 3, 4, 5, 6, 7, 8, 9, 0] rfl rfl ?_
            refine lm_aload_n C dL_isActed_271 rfl 1 rfl rfl ?_
            refine lm_bipush C (v := (7 : Int32)) dL_isActed_272 (by decide) rfl ?_
            refine lm_iconst C (v := (0 : Int32)) dL_isActed_274 (by decide) rfl ?_
            obtain ⟨h21, eh21, hF⟩ := lm_lte hF
            refine lm_iast C (w' := (lwMW z zo m a b h21)) 141 rfl (by unfold vp_in; decide) dL_isActed_275 (by rw [← eh21]; rfl) rfl ?_
            refine lm_aload_n C dL_isActed_276 rfl 1 rfl rfl ?_
            refine lm_bipush C (v := (8 : Int32)) dL_isActed_277 (by decide) rfl ?_
            refine lm_iconst C (v := (0 : Int32)) dL_isActed_279 (by decide) rfl ?_
            obtain ⟨h22, eh22, hF⟩ := lm_lte hF
            refine lm_iast C (w' := (lwMW z zo m a b h22)) 141 rfl (by unfold vp_in; decide) dL_isActed_280 (by rw [← eh22]; rfl) rfl ?_
            refine lm_aload_n C dL_isActed_281 rfl 0 rfl rfl ?_
            obtain ⟨r24, h23, qh23, hF⟩ := lm_b2e hF
            obtain ⟨h25, eh25, hF⟩ := lm_lte hF
            refine lm_callV C (n := 0) (ci := 6) (w' := (lwMW z zo m a b h25)) hA (m_X6_again D z zo l m a h22 r24 h23 qh23) gL_isActed_X6_again rfl (by decide +kernel) ⟨Nat.le_of_ble_eq_true rfl, Nat.le_of_ble_eq_true rfl⟩ ⟨Nat.le_of_ble_eq_true rfl, Nat.le_of_ble_eq_true rfl⟩ 0 rfl rfl (lw_gm z zo m a b h22) (by rw [← eh25]; exact lw_pm z zo m a b h22 h23) rfl rfl (Nat.le_of_ble_eq_true rfl) dL_isActed_282 (st' := [.int r24]) rfl rfl ?_
            refine lm_iload C dL_isActed_285 9 rfl rfl ?_
            refine lm_icmp_ne C (tgt := 294) dL_isActed_287 (by decide) rfl (fun c26 => ?_) (fun c26 => ?_)
            · have hF := lm_brt hF c26
              refine lm_iconst C (v := (0 : Int32)) dL_isActed_294 (by decide) rfl ?_
              cases hF
              exact lm_zret C hr hk rfl rfl rfl dL_isActed_295
            · have hF := lm_brf hF c26
              refine lm_iconst C (v := (1 : Int32)) dL_isActed_290 (by decide) rfl ?_
              refine lm_goto C (tgt := 295) dL_isActed_291 (by decide) ?_
              cases hF
              exact lm_zret C hr hk rfl rfl rfl dL_isActed_295
        · have hF := lm_brf hF c4
          refine lm_iconst C (v := (1 : Int32)) dL_isActed_200 (by decide) rfl ?_
          refine lm_iload C dL_isActed_201 8 rfl rfl ?_
          refine lm_bipush C (v := (6 : Int32)) dL_isActed_203 (by decide) rfl ?_
          refine lm_irem C dL_isActed_205 (by decide) rfl rfl ?_
          refine lm_iadd C dL_isActed_206 rfl rfl ?_
          obtain ⟨t27, et27, hF⟩ := lm_lte hF
          rw [et27]
          refine lm_istore C (lv' := [(0, .ref (m 0)), (1, .ref (b 0)), (2, .ref (b 1)), (3, .ref (b 2)), (4, .ref (b 3)), (5, .ref (b 4)), (6, .ref (b 5)), (7, .int x7), (8, .int x8), (9, .int t27)]) dL_isActed_207 (by decide) rfl [1, 2, 3, 4, 5, 6, 7, 8, 9, 0] rfl rfl ?_
          refine lm_aload_n C dL_isActed_209 rfl 1 rfl rfl ?_
          refine lm_bipush C (v := (7 : Int32)) dL_isActed_210 (by decide) rfl ?_
          refine lm_iald C (v := (h 9 0 7)) 141 rfl (by unfold vp_in; decide) rfl dL_isActed_212 rfl ?_
          refine lm_aload_n C dL_isActed_213 rfl 1 rfl rfl ?_
          refine lm_bipush C (v := (6 : Int32)) dL_isActed_214 (by decide) rfl ?_
          refine lm_iald C (v := (h 9 0 6)) 141 rfl (by unfold vp_in; decide) rfl dL_isActed_216 rfl ?_
          refine lm_icmp_ne C (tgt := 225) dL_isActed_217 (by decide) rfl (fun c28 => ?_) (fun c28 => ?_)
          · have hF := lm_brt hF c28
            refine lm_aload_n C dL_isActed_225 rfl 1 rfl rfl ?_
            refine lm_aload_n C dL_isActed_226 rfl 2 rfl rfl ?_
            refine lm_aload_n C dL_isActed_227 rfl 3 rfl rfl ?_
            refine lm_aload C dL_isActed_228 4 rfl rfl ?_
            refine lm_aload C dL_isActed_230 5 rfl rfl ?_
            refine lm_aload C dL_isActed_232 6 rfl rfl ?_
            refine lm_iload C dL_isActed_234 9 rfl rfl ?_
            obtain ⟨r30, τ29, qτ29, hF⟩ := lm_b2e hF
            obtain ⟨h31, eh31, hF⟩ := lm_lte hF
            refine lm_callS C (n := 7) (w' := (lwMW z zo m a b h31)) hA (m_L_steps D z zo l b (h 9) t27 r30 τ29 qτ29) gL_isActed_L_steps rfl (by decide +kernel) ⟨Nat.le_of_ble_eq_true rfl, Nat.le_of_ble_eq_true rfl⟩ ⟨Nat.le_of_ble_eq_true rfl, Nat.le_of_ble_eq_true rfl⟩ (lw_g6 z zo m a b h) (by rw [← eh31]; exact lw_q6 z zo m a b h τ29) rfl rfl (Nat.le_of_ble_eq_true rfl) dL_isActed_236 (st' := [.int r30]) rfl rfl ?_
            refine lm_istore C (lv' := [(0, .ref (m 0)), (1, .ref (b 0)), (2, .ref (b 1)), (3, .ref (b 2)), (4, .ref (b 3)), (5, .ref (b 4)), (6, .ref (b 5)), (7, .int x7), (8, .int x8), (9, .int t27), (10, .int r30)]) dL_isActed_239 (by decide) rfl [1, 2, 3, 4, 5, 6, 7, 8, 9, 10, 0] rfl rfl ?_
            refine lm_aload_n C dL_isActed_241 rfl 0 rfl rfl ?_
            refine lm_iload C dL_isActed_242 9 rfl rfl ?_
            obtain ⟨r33, h32, qh32, hF⟩ := lm_b2e hF
            obtain ⟨h34, eh34, hF⟩ := lm_lte hF
            refine lm_callV C (n := 1) (ci := 6) (w' := (lwMW z zo m a b h34)) hA (m_X6_step D z zo l m a h31 t27 r33 h32 qh32) gL_isActed_X6_step rfl (by decide +kernel) ⟨Nat.le_of_ble_eq_true rfl, Nat.le_of_ble_eq_true rfl⟩ ⟨Nat.le_of_ble_eq_true rfl, Nat.le_of_ble_eq_true rfl⟩ 0 rfl rfl (lw_gm z zo m a b h31) (by rw [← eh34]; exact lw_pm z zo m a b h31 h32) rfl rfl (Nat.le_of_ble_eq_true rfl) dL_isActed_244 (st' := [.int r33]) rfl rfl ?_
            refine lm_iload C dL_isActed_247 10 rfl rfl ?_
            refine lm_icmp_ne C (tgt := 256) dL_isActed_249 (by decide) rfl (fun c35 => ?_) (fun c35 => ?_)
            · have hF := lm_brt hF c35
              refine lm_iconst C (v := (0 : Int32)) dL_isActed_256 (by decide) rfl ?_
              cases hF
              exact lm_zret C hr hk rfl rfl rfl dL_isActed_257
            · have hF := lm_brf hF c35
              refine lm_iconst C (v := (1 : Int32)) dL_isActed_252 (by decide) rfl ?_
              refine lm_goto C (tgt := 257) dL_isActed_253 (by decide) ?_
              cases hF
              exact lm_zret C hr hk rfl rfl rfl dL_isActed_257
          · have hF := lm_brf hF c28
            refine lm_bipush C (v := (-2 : Int32)) dL_isActed_220 (by decide) rfl ?_
            refine lm_goto C (tgt := 239) dL_isActed_222 (by decide) ?_
            refine lm_istore C (lv' := [(0, .ref (m 0)), (1, .ref (b 0)), (2, .ref (b 1)), (3, .ref (b 2)), (4, .ref (b 3)), (5, .ref (b 4)), (6, .ref (b 5)), (7, .int x7), (8, .int x8), (9, .int t27), (10, .int (-2 : Int32))]) dL_isActed_239 (by decide) rfl [1, 2, 3, 4, 5, 6, 7, 8, 9, 10, 0] rfl rfl ?_
            refine lm_aload_n C dL_isActed_241 rfl 0 rfl rfl ?_
            refine lm_iload C dL_isActed_242 9 rfl rfl ?_
            obtain ⟨r37, h36, qh36, hF⟩ := lm_b2e hF
            obtain ⟨h38, eh38, hF⟩ := lm_lte hF
            refine lm_callV C (n := 1) (ci := 6) (w' := (lwMW z zo m a b h38)) hA (m_X6_step D z zo l m a h t27 r37 h36 qh36) gL_isActed_X6_step rfl (by decide +kernel) ⟨Nat.le_of_ble_eq_true rfl, Nat.le_of_ble_eq_true rfl⟩ ⟨Nat.le_of_ble_eq_true rfl, Nat.le_of_ble_eq_true rfl⟩ 0 rfl rfl (lw_gm z zo m a b h) (by rw [← eh38]; exact lw_pm z zo m a b h h36) rfl rfl (Nat.le_of_ble_eq_true rfl) dL_isActed_244 (st' := [.int r37]) rfl rfl ?_
            refine lm_iload C dL_isActed_247 10 rfl rfl ?_
            refine lm_icmp_ne C (tgt := 256) dL_isActed_249 (by decide) rfl (fun c39 => ?_) (fun c39 => ?_)
            · have hF := lm_brt hF c39
              refine lm_iconst C (v := (0 : Int32)) dL_isActed_256 (by decide) rfl ?_
              cases hF
              exact lm_zret C hr hk rfl rfl rfl dL_isActed_257
            · have hF := lm_brf hF c39
              refine lm_iconst C (v := (1 : Int32)) dL_isActed_252 (by decide) rfl ?_
              refine lm_goto C (tgt := 257) dL_isActed_253 (by decide) ?_
              cases hF
              exact lm_zret C hr hk rfl rfl rfl dL_isActed_257
      · have hF := lm_brf hF c3
        refine lm_iload C dL_isActed_75 8 rfl rfl ?_
        refine lm_bipush C (v := (20 : Int32)) dL_isActed_77 (by decide) rfl ?_
        refine lm_irem C dL_isActed_79 (by decide) rfl rfl ?_
        obtain ⟨t40, et40, hF⟩ := lm_lte hF
        rw [et40]
        refine lm_istore C (lv' := [(0, .ref (m 0)), (1, .ref (b 0)), (2, .ref (b 1)), (3, .ref (b 2)), (4, .ref (b 3)), (5, .ref (b 4)), (6, .ref (b 5)), (7, .int x7), (8, .int x8), (9, .int t40)]) dL_isActed_80 (by decide) rfl [1, 2, 3, 4, 5, 6, 7, 8, 9, 0] rfl rfl ?_
        refine lm_iload C dL_isActed_82 8 rfl rfl ?_
        refine lm_bipush C (v := (20 : Int32)) dL_isActed_84 (by decide) rfl ?_
        refine lm_idiv C dL_isActed_86 (by decide) rfl rfl ?_
        refine lm_iconst C (v := (5 : Int32)) dL_isActed_87 (by decide) rfl ?_
        refine lm_irem C dL_isActed_88 (by decide) rfl rfl ?_
        obtain ⟨t41, et41, hF⟩ := lm_lte hF
        rw [et41]
        refine lm_istore C (lv' := [(0, .ref (m 0)), (1, .ref (b 0)), (2, .ref (b 1)), (3, .ref (b 2)), (4, .ref (b 3)), (5, .ref (b 4)), (6, .ref (b 5)), (7, .int x7), (8, .int x8), (9, .int t40), (10, .int t41)]) dL_isActed_89 (by decide) rfl [1, 2, 3, 4, 5, 6, 7, 8, 9, 10, 0] rfl rfl ?_
        refine lm_iload C dL_isActed_91 9 rfl rfl ?_
        refine lm_aload_n C dL_isActed_93 rfl 1 rfl rfl ?_
        refine lm_iconst C (v := (5 : Int32)) dL_isActed_94 (by decide) rfl ?_
        refine lm_iald C (v := (h 9 0 5)) 141 rfl (by unfold vp_in; decide) rfl dL_isActed_95 rfl ?_
        refine lm_icmp_lt C (tgt := 119) dL_isActed_96 (by decide) rfl (fun c42 => ?_) (fun c42 => ?_)
        · have hF := lm_brt hF c42
          refine lm_aload_n C dL_isActed_119 rfl 2 rfl rfl ?_
          refine lm_iconst C (v := (2 : Int32)) dL_isActed_120 (by decide) rfl ?_
          refine lm_iload C dL_isActed_121 9 rfl rfl ?_
          refine lm_imul C dL_isActed_123 rfl rfl ?_
          obtain ⟨b43, hF⟩ := lm_gie hF
          refine lm_iald C (v := (h 9 1 (((2 : Int32) * t40)).toNatClampNeg)) 142 rfl b43 rfl dL_isActed_124 rfl ?_
          obtain ⟨t44, et44, hF⟩ := lm_lte hF
          rw [et44]
          refine lm_istore C (lv' := [(0, .ref (m 0)), (1, .ref (b 0)), (2, .ref (b 1)), (3, .ref (b 2)), (4, .ref (b 3)), (5, .ref (b 4)), (6, .ref (b 5)), (7, .int x7), (8, .int x8), (9, .int t40), (10, .int t41), (11, .int t44)]) dL_isActed_125 (by decide) rfl [1, 2, 3, 4, 5, 6, 7, 8, 9, 10, 11, 0] rfl rfl ?_
          refine lm_aload_n C dL_isActed_127 rfl 2 rfl rfl ?_
          refine lm_iconst C (v := (2 : Int32)) dL_isActed_128 (by decide) rfl ?_
          refine lm_iload C dL_isActed_129 9 rfl rfl ?_
          refine lm_imul C dL_isActed_131 rfl rfl ?_
          refine lm_iload C dL_isActed_132 10 rfl rfl ?_
          obtain ⟨b55, hF⟩ := lm_gie hF
          obtain ⟨h45, eh45, hF⟩ := lm_lte hF
          refine lm_iast C (w' := (lwMW z zo m a b h45)) 142 rfl b55 dL_isActed_134 (by rw [← eh45]; rfl) rfl ?_
          refine lm_aload_n C dL_isActed_135 rfl 2 rfl rfl ?_
          refine lm_iconst C (v := (2 : Int32)) dL_isActed_136 (by decide) rfl ?_
          refine lm_iload C dL_isActed_137 9 rfl rfl ?_
          refine lm_imul C dL_isActed_139 rfl rfl ?_
          refine lm_iconst C (v := (1 : Int32)) dL_isActed_140 (by decide) rfl ?_
          refine lm_iadd C dL_isActed_141 rfl rfl ?_
          refine lm_iload C dL_isActed_142 8 rfl rfl ?_
          refine lm_bipush C (v := (100 : Int32)) dL_isActed_144 (by decide) rfl ?_
          refine lm_idiv C dL_isActed_146 (by decide) rfl rfl ?_
          refine lm_bipush C (v := (100 : Int32)) dL_isActed_147 (by decide) rfl ?_
          refine lm_irem C dL_isActed_149 (by decide) rfl rfl ?_
          obtain ⟨b54, hF⟩ := lm_gie hF
          obtain ⟨h46, eh46, hF⟩ := lm_lte hF
          refine lm_iast C (w' := (lwMW z zo m a b h46)) 142 rfl b54 dL_isActed_150 (by rw [← eh46]; rfl) rfl ?_
          refine lm_aload_n C dL_isActed_151 rfl 1 rfl rfl ?_
          refine lm_aload C dL_isActed_152 4 rfl rfl ?_
          refine lm_aload C dL_isActed_154 5 rfl rfl ?_
          refine lm_iload C dL_isActed_156 11 rfl rfl ?_
          refine lm_iload C dL_isActed_158 10 rfl rfl ?_
          obtain ⟨τ47, qτ47, hF⟩ := lm_bde hF
          obtain ⟨h48, eh48, hF⟩ := lm_lte hF
          refine lm_callS C (n := 5) (w' := (lwMW z zo m a b h48)) hA (m_L_kept D z zo l b (h46 9) t44 t41 τ47 qτ47) gL_isActed_L_kept rfl (by decide +kernel) ⟨Nat.le_of_ble_eq_true rfl, Nat.le_of_ble_eq_true rfl⟩ ⟨Nat.le_of_ble_eq_true rfl, Nat.le_of_ble_eq_true rfl⟩ (lw_g6 z zo m a b h46) (by rw [← eh48]; exact lw_q6 z zo m a b h46 τ47) rfl rfl (Nat.le_of_ble_eq_true rfl) dL_isActed_160 (st' := []) rfl rfl ?_
          refine lm_aload_n C dL_isActed_163 rfl 0 rfl rfl ?_
          refine lm_iload C dL_isActed_164 9 rfl rfl ?_
          refine lm_iload C dL_isActed_166 10 rfl rfl ?_
          refine lm_iload C dL_isActed_168 8 rfl rfl ?_
          refine lm_bipush C (v := (100 : Int32)) dL_isActed_170 (by decide) rfl ?_
          refine lm_idiv C dL_isActed_172 (by decide) rfl rfl ?_
          refine lm_bipush C (v := (100 : Int32)) dL_isActed_173 (by decide) rfl ?_
          refine lm_irem C dL_isActed_175 (by decide) rfl rfl ?_
          obtain ⟨r50, h49, qh49, hF⟩ := lm_b2e hF
          obtain ⟨h51, eh51, hF⟩ := lm_lte hF
          refine lm_callV C (n := 3) (ci := 6) (w' := (lwMW z zo m a b h51)) hA (m_X6_change D z zo l m a h48 t40 t41 ((x8 / (100 : Int32)) - (x8 / (100 : Int32)) / (100 : Int32) * (100 : Int32)) r50 h49 qh49) gL_isActed_X6_change rfl (by decide +kernel) ⟨Nat.le_of_ble_eq_true rfl, Nat.le_of_ble_eq_true rfl⟩ ⟨Nat.le_of_ble_eq_true rfl, Nat.le_of_ble_eq_true rfl⟩ 0 rfl rfl (lw_gm z zo m a b h48) (by rw [← eh51]; exact lw_pm z zo m a b h48 h49) rfl rfl (Nat.le_of_ble_eq_true rfl) dL_isActed_176 (st' := [.int r50]) rfl rfl ?_
          refine lm_aload C dL_isActed_179 4 rfl rfl ?_
          obtain ⟨r52, qr52, hF⟩ := lm_bde hF
          refine lm_callSR C (n := 1) (m_L_many D z zo l (lw_f1 (b 3)) (lw_f1 (h51 9 3)) r52 qr52) gL_isActed_L_many rfl (by decide +kernel) ⟨Nat.le_of_ble_eq_true rfl, Nat.le_of_ble_eq_true rfl⟩ ⟨Nat.le_of_ble_eq_true rfl, Nat.le_of_ble_eq_true rfl⟩ (fun q hq => lw_s6 z zo m a b h51 q (lw_hsub [3] rfl q hq)) rfl rfl (Nat.le_of_ble_eq_true rfl) dL_isActed_181 (st' := [.int r52, .int r50]) rfl rfl ?_
          refine lm_icmp_ne C (tgt := 191) dL_isActed_184 (by decide) rfl (fun c53 => ?_) (fun c53 => ?_)
          · have hF := lm_brt hF c53
            refine lm_iconst C (v := (0 : Int32)) dL_isActed_191 (by decide) rfl ?_
            cases hF
            exact lm_zret C hr hk rfl rfl rfl dL_isActed_192
          · have hF := lm_brf hF c53
            refine lm_iconst C (v := (1 : Int32)) dL_isActed_187 (by decide) rfl ?_
            refine lm_goto C (tgt := 192) dL_isActed_188 (by decide) ?_
            cases hF
            exact lm_zret C hr hk rfl rfl rfl dL_isActed_192
        · have hF := lm_brf hF c42
          refine lm_aload_n C dL_isActed_99 rfl 0 rfl rfl ?_
          refine lm_iload C dL_isActed_100 9 rfl rfl ?_
          refine lm_iload C dL_isActed_102 10 rfl rfl ?_
          refine lm_bipush C (v := (50 : Int32)) dL_isActed_104 (by decide) rfl ?_
          obtain ⟨r57, h56, qh56, hF⟩ := lm_b2e hF
          obtain ⟨h58, eh58, hF⟩ := lm_lte hF
          refine lm_callV C (n := 3) (ci := 6) (w' := (lwMW z zo m a b h58)) hA (m_X6_change D z zo l m a h t40 t41 (50 : Int32) r57 h56 qh56) gL_isActed_X6_change rfl (by decide +kernel) ⟨Nat.le_of_ble_eq_true rfl, Nat.le_of_ble_eq_true rfl⟩ ⟨Nat.le_of_ble_eq_true rfl, Nat.le_of_ble_eq_true rfl⟩ 0 rfl rfl (lw_gm z zo m a b h) (by rw [← eh58]; exact lw_pm z zo m a b h h56) rfl rfl (Nat.le_of_ble_eq_true rfl) dL_isActed_106 (st' := [.int r57]) rfl rfl ?_
          refine lm_iconst C (v := (-1 : Int32)) dL_isActed_109 (by decide) rfl ?_
          refine lm_icmp_ne C (tgt := 117) dL_isActed_110 (by decide) rfl (fun c59 => ?_) (fun c59 => ?_)
          · have hF := lm_brt hF c59
            refine lm_iconst C (v := (0 : Int32)) dL_isActed_117 (by decide) rfl ?_
            cases hF
            exact lm_zret C hr hk rfl rfl rfl dL_isActed_118
          · have hF := lm_brf hF c59
            refine lm_iconst C (v := (1 : Int32)) dL_isActed_113 (by decide) rfl ?_
            refine lm_goto C (tgt := 118) dL_isActed_114 (by decide) ?_
            cases hF
            exact lm_zret C hr hk rfl rfl rfl dL_isActed_118
    · have hF := lm_brf hF c2
      refine lm_aload_n C dL_isActed_39 rfl 0 rfl rfl ?_
      refine lm_aload_n C dL_isActed_40 rfl 1 rfl rfl ?_
      refine lm_aload_n C dL_isActed_41 rfl 2 rfl rfl ?_
      refine lm_aload_n C dL_isActed_42 rfl 3 rfl rfl ?_
      refine lm_aload C dL_isActed_43 4 rfl rfl ?_
      refine lm_aload C dL_isActed_45 5 rfl rfl ?_
      refine lm_iload C dL_isActed_47 7 rfl rfl ?_
      refine lm_bipush C (v := (7 : Int32)) dL_isActed_49 (by decide) rfl ?_
      refine lm_icmp_ne C (tgt := 58) dL_isActed_51 (by decide) rfl (fun c60 => ?_) (fun c60 => ?_)
      · have hF := lm_brt hF c60
        refine lm_iconst C (v := (0 : Int32)) dL_isActed_58 (by decide) rfl ?_
        refine lm_iload C dL_isActed_59 8 rfl rfl ?_
        refine lm_bipush C (v := (20 : Int32)) dL_isActed_61 (by decide) rfl ?_
        refine lm_irem C dL_isActed_63 (by decide) rfl rfl ?_
        obtain ⟨r62, h61, qh61, hF⟩ := lm_b2e hF
        refine lm_callS C (n := 8) (w' := (lwMW z zo m a b h61)) hA (m_L_isGone D z zo l m a b h (0 : Int32) (x8 - x8 / (20 : Int32) * (20 : Int32)) r62 h61 qh61) gL_isActed_L_isGone rfl (by decide +kernel) ⟨Nat.le_of_ble_eq_true rfl, Nat.le_of_ble_eq_true rfl⟩ ⟨Nat.le_of_ble_eq_true rfl, Nat.le_of_ble_eq_true rfl⟩ lm_pr lm_pr' rfl rfl (Nat.le_of_ble_eq_true rfl) dL_isActed_64 (st' := [.int r62]) rfl rfl ?_
        obtain ⟨c63, hF⟩ := lm_gde hF
        cases hF
        exact lm_zret C hr hk (lm_boolok c63) rfl rfl dL_isActed_67
      · have hF := lm_brf hF c60
        refine lm_iconst C (v := (1 : Int32)) dL_isActed_54 (by decide) rfl ?_
        refine lm_goto C (tgt := 59) dL_isActed_55 (by decide) ?_
        refine lm_iload C dL_isActed_59 8 rfl rfl ?_
        refine lm_bipush C (v := (20 : Int32)) dL_isActed_61 (by decide) rfl ?_
        refine lm_irem C dL_isActed_63 (by decide) rfl rfl ?_
        obtain ⟨r65, h64, qh64, hF⟩ := lm_b2e hF
        refine lm_callS C (n := 8) (w' := (lwMW z zo m a b h64)) hA (m_L_isGone D z zo l m a b h (1 : Int32) (x8 - x8 / (20 : Int32) * (20 : Int32)) r65 h64 qh64) gL_isActed_L_isGone rfl (by decide +kernel) ⟨Nat.le_of_ble_eq_true rfl, Nat.le_of_ble_eq_true rfl⟩ ⟨Nat.le_of_ble_eq_true rfl, Nat.le_of_ble_eq_true rfl⟩ lm_pr lm_pr' rfl rfl (Nat.le_of_ble_eq_true rfl) dL_isActed_64 (st' := [.int r65]) rfl rfl ?_
        obtain ⟨c66, hF⟩ := lm_gde hF
        cases hF
        exact lm_zret C hr hk (lm_boolok c66) rfl rfl dL_isActed_67
  · have hF := lm_brf hF c1
    refine lm_aload_n C dL_isActed_7 rfl 0 rfl rfl ?_
    refine lm_aload_n C dL_isActed_8 rfl 1 rfl rfl ?_
    refine lm_aload_n C dL_isActed_9 rfl 2 rfl rfl ?_
    refine lm_aload_n C dL_isActed_10 rfl 3 rfl rfl ?_
    refine lm_aload C dL_isActed_11 4 rfl rfl ?_
    refine lm_aload C dL_isActed_13 5 rfl rfl ?_
    refine lm_iload C dL_isActed_15 7 rfl rfl ?_
    refine lm_iconst C (v := (4 : Int32)) dL_isActed_17 (by decide) rfl ?_
    refine lm_icmp_ge C (tgt := 25) dL_isActed_18 (by decide) rfl (fun c67 => ?_) (fun c67 => ?_)
    · have hF := lm_brt hF c67
      refine lm_iconst C (v := (0 : Int32)) dL_isActed_25 (by decide) rfl ?_
      refine lm_iload C dL_isActed_26 8 rfl rfl ?_
      obtain ⟨r69, h68, qh68, hF⟩ := lm_b2e hF
      refine lm_callS C (n := 8) (w' := (lwMW z zo m a b h68)) hA (m_L_isRow D z zo l m a b h (0 : Int32) x8 r69 h68 qh68) gL_isActed_L_isRow rfl (by decide +kernel) ⟨Nat.le_of_ble_eq_true rfl, Nat.le_of_ble_eq_true rfl⟩ ⟨Nat.le_of_ble_eq_true rfl, Nat.le_of_ble_eq_true rfl⟩ lm_pr lm_pr' rfl rfl (Nat.le_of_ble_eq_true rfl) dL_isActed_28 (st' := [.int r69]) rfl rfl ?_
      obtain ⟨c70, hF⟩ := lm_gde hF
      cases hF
      exact lm_zret C hr hk (lm_boolok c70) rfl rfl dL_isActed_31
    · have hF := lm_brf hF c67
      refine lm_iconst C (v := (1 : Int32)) dL_isActed_21 (by decide) rfl ?_
      refine lm_goto C (tgt := 26) dL_isActed_22 (by decide) ?_
      refine lm_iload C dL_isActed_26 8 rfl rfl ?_
      obtain ⟨r72, h71, qh71, hF⟩ := lm_b2e hF
      refine lm_callS C (n := 8) (w' := (lwMW z zo m a b h71)) hA (m_L_isRow D z zo l m a b h (1 : Int32) x8 r72 h71 qh71) gL_isActed_L_isRow rfl (by decide +kernel) ⟨Nat.le_of_ble_eq_true rfl, Nat.le_of_ble_eq_true rfl⟩ ⟨Nat.le_of_ble_eq_true rfl, Nat.le_of_ble_eq_true rfl⟩ lm_pr lm_pr' rfl rfl (Nat.le_of_ble_eq_true rfl) dL_isActed_28 (st' := [.int r72]) rfl rfl ?_
      obtain ⟨c73, hF⟩ := lm_gde hF
      cases hF
      exact lm_zret C hr hk (lm_boolok c73) rfl rfl dL_isActed_31
