def F_X7_looks (σ : Hp) (x1 : Int32) : Option (Int32 × (Hp)) :=
  lm_lt (lm_u σ 1 16 ((σ 1 16) + (1 : Int32))) fun σ1 =>
  lm_bd (F_X7_isKnown σ1 x1) fun r2 =>
  lm_br (r2 = 0)
   (lm_lt (lm_u σ1 1 10 ((σ1 1 10) + (1 : Int32))) fun σ4 =>
   lm_bd (F_X7_weight σ4 x1) fun r5 =>
   lm_br (r5 ≤ (σ4 1 0))
    (lm_gi ((97 : Int32) + x1) 127
    (lm_lt (lm_u σ4 1 ((((97 : Int32) + x1)).toNatClampNeg) (1 : Int32)) fun σ7 =>
    lm_gi ((107 : Int32) + x1) 127
    (lm_lt (lm_u σ7 1 ((((107 : Int32) + x1)).toNatClampNeg) (σ7 1 16)) fun σ8 =>
    lm_gi ((117 : Int32) + x1) 127
    (lm_lt (lm_u σ8 1 ((((117 : Int32) + x1)).toNatClampNeg) (σ8 1 16)) fun σ9 =>
    lm_b2 (F_X7_makesRoom σ9 x1) fun r11 σ10 =>
    lm_br (0 ≤ r11)
     (lm_lt (lm_u σ10 1 8 ((σ9 1 8) + (0 : Int32))) fun σ13 =>
     some (((2 : Int32) + (σ13 1 5)), σ13))
     (lm_lt (lm_u σ10 1 8 ((σ9 1 8) + (1 : Int32))) fun σ14 =>
     some (((2 : Int32) + (σ14 1 5)), σ14))))))
    (lm_lt (lm_u σ4 1 14 ((σ4 1 14) + (1 : Int32))) fun σ18 =>
    some (((2 : Int32) + (σ18 1 5)), σ18)))
   (lm_gi ((97 : Int32) + x1) 127
   (lm_gi ((97 : Int32) + x1) 127
   (lm_lt (lm_u σ1 1 ((((97 : Int32) + x1)).toNatClampNeg) ((σ1 1 (((97 : Int32) + x1)).toNatClampNeg) + (1 : Int32))) fun σ20 =>
   lm_gi ((107 : Int32) + x1) 127
   (lm_lt (lm_u σ20 1 ((((107 : Int32) + x1)).toNatClampNeg) (σ20 1 16)) fun σ21 =>
   lm_lt (lm_u σ21 1 9 ((σ21 1 9) + (1 : Int32))) fun σ22 =>
   some ((1 : Int32), σ22)))))
theorem in7_X7_looks : ∀ w ∈ u_ws RX7 TX7 14, w ∈ wsX7_looks := by decide +kernel
theorem fl7_X7_looks : Cond.fieldLink RX7 7 "LoopMemoModel" "s" "[I" ∈ wsX7_looks := by decide +kernel
set_option maxRecDepth 100000 in
set_option maxHeartbeats 4000000 in
theorem m_X7_looks (D : va_G) (z zo : ClassId) (l : Launch) (a : Nat → Nat) (σ : Hp) (x1 : Int32) (r : Int32) (σ' : Hp) (hF : F_X7_looks σ x1 = some (r, σ')) : lm_C D z zo l yX7_looks wsX7_looks 6 133 [.ref (a 0), .int x1] (mdW z a σ) (some (.int r)) (mdW z a σ') := by
  refine lm_C.of (by decide) rfl (Nat.le_of_ble_eq_true rfl) (own := RX7) rfl ?_
  intro p e s m_ args below meth c C hr hk hA
  show lm_St p l e ({ frames := 6, cells := 0, slots := 0, locals := 133 }) s m_ args below meth c D (va_A (mdW z a σ) s.heap.size) 2 0 0 (lm_End below D (some (.int r)) (mdW z a σ) (mdW z a σ') args s) false (mdW z a σ) 0 [(0, .ref (a 0)), (1, .int x1)] []
  rw [F_X7_looks] at hF
  refine lm_aload_n C dX7_looks_0 rfl 0 rfl rfl ?_
  refine lm_getf C (T := TX7) (N := 14) (v := .ref (a 1)) in7_X7_looks 0 rfl rfl 0 (by decide) fl7_X7_looks rfl rfl dX7_looks_1 rfl ?_
  refine lm_bipush C (v := (16 : Int32)) dX7_looks_4 (by decide) rfl ?_
  refine lm_dup2 C dX7_looks_6 rfl rfl rfl ?_
  refine lm_iald C (v := (σ 1 16)) 1 rfl (by unfold vp_in; decide) rfl dX7_looks_7 rfl ?_
  refine lm_iconst C (v := (1 : Int32)) dX7_looks_8 (by decide) rfl ?_
  refine lm_iadd C dX7_looks_9 rfl rfl ?_
  obtain ⟨σ1, eσ1, hF⟩ := lm_lte hF
  refine lm_iast C (w' := (mdW z a σ1)) 1 rfl (by unfold vp_in; decide) dX7_looks_10 (by rw [← eσ1]; rfl) rfl ?_
  refine lm_aload_n C dX7_looks_11 rfl 0 rfl rfl ?_
  refine lm_iload_n C dX7_looks_12 rfl 1 rfl rfl ?_
  obtain ⟨r2, qr2, hF⟩ := lm_bde hF
  refine lm_callVR C (n := 1) (ci := 7) (m_X7_isKnown D z zo l a σ1 x1 r2 qr2) gX7_looks_X7_isKnown rfl (by decide +kernel) ⟨Nat.le_of_ble_eq_true rfl, Nat.le_of_ble_eq_true rfl⟩ ⟨Nat.le_of_ble_eq_true rfl, Nat.le_of_ble_eq_true rfl⟩ 0 rfl rfl (fun _ h => h) rfl rfl (Nat.le_of_ble_eq_true rfl) dX7_looks_13 (st' := [.int r2]) rfl rfl ?_
  refine lm_if_eq C (tgt := 61) dX7_looks_16 (by decide) rfl (fun c3 => ?_) (fun c3 => ?_)
  · have hF := lm_brt hF c3
    refine lm_aload_n C dX7_looks_61 rfl 0 rfl rfl ?_
    refine lm_getf C (T := TX7) (N := 14) (v := .ref (a 1)) in7_X7_looks 0 rfl rfl 0 (by decide) fl7_X7_looks rfl rfl dX7_looks_62 rfl ?_
    refine lm_bipush C (v := (10 : Int32)) dX7_looks_65 (by decide) rfl ?_
    refine lm_dup2 C dX7_looks_67 rfl rfl rfl ?_
    refine lm_iald C (v := (σ1 1 10)) 1 rfl (by unfold vp_in; decide) rfl dX7_looks_68 rfl ?_
    refine lm_iconst C (v := (1 : Int32)) dX7_looks_69 (by decide) rfl ?_
    refine lm_iadd C dX7_looks_70 rfl rfl ?_
    obtain ⟨σ4, eσ4, hF⟩ := lm_lte hF
    refine lm_iast C (w' := (mdW z a σ4)) 1 rfl (by unfold vp_in; decide) dX7_looks_71 (by rw [← eσ4]; rfl) rfl ?_
    refine lm_aload_n C dX7_looks_72 rfl 0 rfl rfl ?_
    refine lm_iload_n C dX7_looks_73 rfl 1 rfl rfl ?_
    obtain ⟨r5, qr5, hF⟩ := lm_bde hF
    refine lm_callVR C (n := 1) (ci := 7) (m_X7_weight D z zo l a σ4 x1 r5 qr5) gX7_looks_X7_weight rfl (by decide +kernel) ⟨Nat.le_of_ble_eq_true rfl, Nat.le_of_ble_eq_true rfl⟩ ⟨Nat.le_of_ble_eq_true rfl, Nat.le_of_ble_eq_true rfl⟩ 0 rfl rfl (fun _ h => h) rfl rfl (Nat.le_of_ble_eq_true rfl) dX7_looks_74 (st' := [.int r5]) rfl rfl ?_
    refine lm_aload_n C dX7_looks_77 rfl 0 rfl rfl ?_
    refine lm_getf C (T := TX7) (N := 14) (v := .ref (a 1)) in7_X7_looks 0 rfl rfl 0 (by decide) fl7_X7_looks rfl rfl dX7_looks_78 rfl ?_
    refine lm_iconst C (v := (0 : Int32)) dX7_looks_81 (by decide) rfl ?_
    refine lm_iald C (v := (σ4 1 0)) 1 rfl (by unfold vp_in; decide) rfl dX7_looks_82 rfl ?_
    refine lm_icmp_le C (tgt := 100) dX7_looks_83 (by decide) rfl (fun c6 => ?_) (fun c6 => ?_)
    · have hF := lm_brt hF c6
      refine lm_aload_n C dX7_looks_100 rfl 0 rfl rfl ?_
      refine lm_getf C (T := TX7) (N := 14) (v := .ref (a 1)) in7_X7_looks 0 rfl rfl 0 (by decide) fl7_X7_looks rfl rfl dX7_looks_101 rfl ?_
      refine lm_bipush C (v := (97 : Int32)) dX7_looks_104 (by decide) rfl ?_
      refine lm_iload_n C dX7_looks_106 rfl 1 rfl rfl ?_
      refine lm_iadd C dX7_looks_107 rfl rfl ?_
      refine lm_iconst C (v := (1 : Int32)) dX7_looks_108 (by decide) rfl ?_
      obtain ⟨b17, hF⟩ := lm_gie hF
      obtain ⟨σ7, eσ7, hF⟩ := lm_lte hF
      refine lm_iast C (w' := (mdW z a σ7)) 1 rfl b17 dX7_looks_109 (by rw [← eσ7]; rfl) rfl ?_
      refine lm_aload_n C dX7_looks_110 rfl 0 rfl rfl ?_
      refine lm_getf C (T := TX7) (N := 14) (v := .ref (a 1)) in7_X7_looks 0 rfl rfl 0 (by decide) fl7_X7_looks rfl rfl dX7_looks_111 rfl ?_
      refine lm_bipush C (v := (107 : Int32)) dX7_looks_114 (by decide) rfl ?_
      refine lm_iload_n C dX7_looks_116 rfl 1 rfl rfl ?_
      refine lm_iadd C dX7_looks_117 rfl rfl ?_
      refine lm_aload_n C dX7_looks_118 rfl 0 rfl rfl ?_
      refine lm_getf C (T := TX7) (N := 14) (v := .ref (a 1)) in7_X7_looks 0 rfl rfl 0 (by decide) fl7_X7_looks rfl rfl dX7_looks_119 rfl ?_
      refine lm_bipush C (v := (16 : Int32)) dX7_looks_122 (by decide) rfl ?_
      refine lm_iald C (v := (σ7 1 16)) 1 rfl (by unfold vp_in; decide) rfl dX7_looks_124 rfl ?_
      obtain ⟨b16, hF⟩ := lm_gie hF
      obtain ⟨σ8, eσ8, hF⟩ := lm_lte hF
      refine lm_iast C (w' := (mdW z a σ8)) 1 rfl b16 dX7_looks_125 (by rw [← eσ8]; rfl) rfl ?_
      refine lm_aload_n C dX7_looks_126 rfl 0 rfl rfl ?_
      refine lm_getf C (T := TX7) (N := 14) (v := .ref (a 1)) in7_X7_looks 0 rfl rfl 0 (by decide) fl7_X7_looks rfl rfl dX7_looks_127 rfl ?_
      refine lm_bipush C (v := (117 : Int32)) dX7_looks_130 (by decide) rfl ?_
      refine lm_iload_n C dX7_looks_132 rfl 1 rfl rfl ?_
      refine lm_iadd C dX7_looks_133 rfl rfl ?_
      refine lm_aload_n C dX7_looks_134 rfl 0 rfl rfl ?_
      refine lm_getf C (T := TX7) (N := 14) (v := .ref (a 1)) in7_X7_looks 0 rfl rfl 0 (by decide) fl7_X7_looks rfl rfl dX7_looks_135 rfl ?_
      refine lm_bipush C (v := (16 : Int32)) dX7_looks_138 (by decide) rfl ?_
      refine lm_iald C (v := (σ8 1 16)) 1 rfl (by unfold vp_in; decide) rfl dX7_looks_140 rfl ?_
      obtain ⟨b15, hF⟩ := lm_gie hF
      obtain ⟨σ9, eσ9, hF⟩ := lm_lte hF
      refine lm_iast C (w' := (mdW z a σ9)) 1 rfl b15 dX7_looks_141 (by rw [← eσ9]; rfl) rfl ?_
      refine lm_aload_n C dX7_looks_142 rfl 0 rfl rfl ?_
      refine lm_getf C (T := TX7) (N := 14) (v := .ref (a 1)) in7_X7_looks 0 rfl rfl 0 (by decide) fl7_X7_looks rfl rfl dX7_looks_143 rfl ?_
      refine lm_bipush C (v := (8 : Int32)) dX7_looks_146 (by decide) rfl ?_
      refine lm_dup2 C dX7_looks_148 rfl rfl rfl ?_
      refine lm_iald C (v := (σ9 1 8)) 1 rfl (by unfold vp_in; decide) rfl dX7_looks_149 rfl ?_
      refine lm_aload_n C dX7_looks_150 rfl 0 rfl rfl ?_
      refine lm_iload_n C dX7_looks_151 rfl 1 rfl rfl ?_
      obtain ⟨r11, σ10, qσ10, hF⟩ := lm_b2e hF
      refine lm_callV C (n := 1) (ci := 7) (w' := (mdW z a σ10)) hA (m_X7_makesRoom D z zo l a σ9 x1 r11 σ10 qσ10) gX7_looks_X7_makesRoom rfl (by decide +kernel) ⟨Nat.le_of_ble_eq_true rfl, Nat.le_of_ble_eq_true rfl⟩ ⟨Nat.le_of_ble_eq_true rfl, Nat.le_of_ble_eq_true rfl⟩ 0 rfl rfl lm_pr lm_pr' rfl rfl (Nat.le_of_ble_eq_true rfl) dX7_looks_152 (st' := [.int r11, .int (σ9 1 8), .int (8 : Int32), .ref (a 1)]) rfl rfl ?_
      refine lm_if_ge C (tgt := 162) dX7_looks_155 (by decide) rfl (fun c12 => ?_) (fun c12 => ?_)
      · have hF := lm_brt hF c12
        refine lm_iconst C (v := (0 : Int32)) dX7_looks_162 (by decide) rfl ?_
        refine lm_iadd C dX7_looks_163 rfl rfl ?_
        obtain ⟨σ13, eσ13, hF⟩ := lm_lte hF
        refine lm_iast C (w' := (mdW z a σ13)) 1 rfl (by unfold vp_in; decide) dX7_looks_164 (by rw [← eσ13]; rfl) rfl ?_
        refine lm_iconst C (v := (2 : Int32)) dX7_looks_165 (by decide) rfl ?_
        refine lm_aload_n C dX7_looks_166 rfl 0 rfl rfl ?_
        refine lm_getf C (T := TX7) (N := 14) (v := .ref (a 1)) in7_X7_looks 0 rfl rfl 0 (by decide) fl7_X7_looks rfl rfl dX7_looks_167 rfl ?_
        refine lm_iconst C (v := (5 : Int32)) dX7_looks_170 (by decide) rfl ?_
        refine lm_iald C (v := (σ13 1 5)) 1 rfl (by unfold vp_in; decide) rfl dX7_looks_171 rfl ?_
        refine lm_iadd C dX7_looks_172 rfl rfl ?_
        cases hF
        exact lm_iret C hr hk rfl rfl dX7_looks_173
      · have hF := lm_brf hF c12
        refine lm_iconst C (v := (1 : Int32)) dX7_looks_158 (by decide) rfl ?_
        refine lm_goto C (tgt := 163) dX7_looks_159 (by decide) ?_
        refine lm_iadd C dX7_looks_163 rfl rfl ?_
        obtain ⟨σ14, eσ14, hF⟩ := lm_lte hF
        refine lm_iast C (w' := (mdW z a σ14)) 1 rfl (by unfold vp_in; decide) dX7_looks_164 (by rw [← eσ14]; rfl) rfl ?_
        refine lm_iconst C (v := (2 : Int32)) dX7_looks_165 (by decide) rfl ?_
        refine lm_aload_n C dX7_looks_166 rfl 0 rfl rfl ?_
        refine lm_getf C (T := TX7) (N := 14) (v := .ref (a 1)) in7_X7_looks 0 rfl rfl 0 (by decide) fl7_X7_looks rfl rfl dX7_looks_167 rfl ?_
        refine lm_iconst C (v := (5 : Int32)) dX7_looks_170 (by decide) rfl ?_
        refine lm_iald C (v := (σ14 1 5)) 1 rfl (by unfold vp_in; decide) rfl dX7_looks_171 rfl ?_
        refine lm_iadd C dX7_looks_172 rfl rfl ?_
        cases hF
        exact lm_iret C hr hk rfl rfl dX7_looks_173
    · have hF := lm_brf hF c6
      refine lm_aload_n C dX7_looks_86 rfl 0 rfl rfl ?_
      refine lm_getf C (T := TX7) (N := 14) (v := .ref (a 1)) in7_X7_looks 0 rfl rfl 0 (by decide) fl7_X7_looks rfl rfl dX7_looks_87 rfl ?_
      refine lm_bipush C (v := (14 : Int32)) dX7_looks_90 (by decide) rfl ?_
      refine lm_dup2 C dX7_looks_92 rfl rfl rfl ?_
      refine lm_iald C (v := (σ4 1 14)) 1 rfl (by unfold vp_in; decide) rfl dX7_looks_93 rfl ?_
      refine lm_iconst C (v := (1 : Int32)) dX7_looks_94 (by decide) rfl ?_
      refine lm_iadd C dX7_looks_95 rfl rfl ?_
      obtain ⟨σ18, eσ18, hF⟩ := lm_lte hF
      refine lm_iast C (w' := (mdW z a σ18)) 1 rfl (by unfold vp_in; decide) dX7_looks_96 (by rw [← eσ18]; rfl) rfl ?_
      refine lm_goto C (tgt := 165) dX7_looks_97 (by decide) ?_
      refine lm_iconst C (v := (2 : Int32)) dX7_looks_165 (by decide) rfl ?_
      refine lm_aload_n C dX7_looks_166 rfl 0 rfl rfl ?_
      refine lm_getf C (T := TX7) (N := 14) (v := .ref (a 1)) in7_X7_looks 0 rfl rfl 0 (by decide) fl7_X7_looks rfl rfl dX7_looks_167 rfl ?_
      refine lm_iconst C (v := (5 : Int32)) dX7_looks_170 (by decide) rfl ?_
      refine lm_iald C (v := (σ18 1 5)) 1 rfl (by unfold vp_in; decide) rfl dX7_looks_171 rfl ?_
      refine lm_iadd C dX7_looks_172 rfl rfl ?_
      cases hF
      exact lm_iret C hr hk rfl rfl dX7_looks_173
  · have hF := lm_brf hF c3
    refine lm_aload_n C dX7_looks_19 rfl 0 rfl rfl ?_
    refine lm_getf C (T := TX7) (N := 14) (v := .ref (a 1)) in7_X7_looks 0 rfl rfl 0 (by decide) fl7_X7_looks rfl rfl dX7_looks_20 rfl ?_
    refine lm_bipush C (v := (97 : Int32)) dX7_looks_23 (by decide) rfl ?_
    refine lm_iload_n C dX7_looks_25 rfl 1 rfl rfl ?_
    refine lm_iadd C dX7_looks_26 rfl rfl ?_
    refine lm_dup2 C dX7_looks_27 rfl rfl rfl ?_
    obtain ⟨b19, hF⟩ := lm_gie hF
    refine lm_iald C (v := (σ1 1 (((97 : Int32) + x1)).toNatClampNeg)) 1 rfl b19 rfl dX7_looks_28 rfl ?_
    refine lm_iconst C (v := (1 : Int32)) dX7_looks_29 (by decide) rfl ?_
    refine lm_iadd C dX7_looks_30 rfl rfl ?_
    obtain ⟨b24, hF⟩ := lm_gie hF
    obtain ⟨σ20, eσ20, hF⟩ := lm_lte hF
    refine lm_iast C (w' := (mdW z a σ20)) 1 rfl b24 dX7_looks_31 (by rw [← eσ20]; rfl) rfl ?_
    refine lm_aload_n C dX7_looks_32 rfl 0 rfl rfl ?_
    refine lm_getf C (T := TX7) (N := 14) (v := .ref (a 1)) in7_X7_looks 0 rfl rfl 0 (by decide) fl7_X7_looks rfl rfl dX7_looks_33 rfl ?_
    refine lm_bipush C (v := (107 : Int32)) dX7_looks_36 (by decide) rfl ?_
    refine lm_iload_n C dX7_looks_38 rfl 1 rfl rfl ?_
    refine lm_iadd C dX7_looks_39 rfl rfl ?_
    refine lm_aload_n C dX7_looks_40 rfl 0 rfl rfl ?_
    refine lm_getf C (T := TX7) (N := 14) (v := .ref (a 1)) in7_X7_looks 0 rfl rfl 0 (by decide) fl7_X7_looks rfl rfl dX7_looks_41 rfl ?_
    refine lm_bipush C (v := (16 : Int32)) dX7_looks_44 (by decide) rfl ?_
    refine lm_iald C (v := (σ20 1 16)) 1 rfl (by unfold vp_in; decide) rfl dX7_looks_46 rfl ?_
    obtain ⟨b23, hF⟩ := lm_gie hF
    obtain ⟨σ21, eσ21, hF⟩ := lm_lte hF
    refine lm_iast C (w' := (mdW z a σ21)) 1 rfl b23 dX7_looks_47 (by rw [← eσ21]; rfl) rfl ?_
    refine lm_aload_n C dX7_looks_48 rfl 0 rfl rfl ?_
    refine lm_getf C (T := TX7) (N := 14) (v := .ref (a 1)) in7_X7_looks 0 rfl rfl 0 (by decide) fl7_X7_looks rfl rfl dX7_looks_49 rfl ?_
    refine lm_bipush C (v := (9 : Int32)) dX7_looks_52 (by decide) rfl ?_
    refine lm_dup2 C dX7_looks_54 rfl rfl rfl ?_
    refine lm_iald C (v := (σ21 1 9)) 1 rfl (by unfold vp_in; decide) rfl dX7_looks_55 rfl ?_
    refine lm_iconst C (v := (1 : Int32)) dX7_looks_56 (by decide) rfl ?_
    refine lm_iadd C dX7_looks_57 rfl rfl ?_
    obtain ⟨σ22, eσ22, hF⟩ := lm_lte hF
    refine lm_iast C (w' := (mdW z a σ22)) 1 rfl (by unfold vp_in; decide) dX7_looks_58 (by rw [← eσ22]; rfl) rfl ?_
    refine lm_iconst C (v := (1 : Int32)) dX7_looks_59 (by decide) rfl ?_
    cases hF
    exact lm_iret C hr hk rfl rfl dX7_looks_60
def F_X7_adds (σ : Hp) (x1 x2 x3 : Int32) : Option (Int32 × (Hp)) :=
  lm_br (x1 = 0)
   (lm_gi ((57 : Int32) + ((2 : Int32) * (σ 1 6))) 127
   (lm_lt (lm_u σ 1 ((((57 : Int32) + ((2 : Int32) * (σ 1 6)))).toNatClampNeg) x2) fun σ3 =>
   lm_gi (((57 : Int32) + ((2 : Int32) * (σ3 1 6))) + (1 : Int32)) 127
   (lm_lt (lm_u σ3 1 (((((57 : Int32) + ((2 : Int32) * (σ3 1 6))) + (1 : Int32))).toNatClampNeg) x3) fun σ4 =>
   lm_lt (lm_u σ4 1 6 ((σ4 1 6) + (1 : Int32))) fun σ5 =>
   some (((σ5 1 6) - (1 : Int32)), σ5))))
   (lm_gi ((17 : Int32) + ((2 : Int32) * (σ 1 5))) 127
   (lm_lt (lm_u σ 1 ((((17 : Int32) + ((2 : Int32) * (σ 1 5)))).toNatClampNeg) x2) fun σ10 =>
   lm_gi (((17 : Int32) + ((2 : Int32) * (σ10 1 5))) + (1 : Int32)) 127
   (lm_lt (lm_u σ10 1 (((((17 : Int32) + ((2 : Int32) * (σ10 1 5))) + (1 : Int32))).toNatClampNeg) x3) fun σ11 =>
   lm_lt (lm_u σ11 1 5 ((σ11 1 5) + (1 : Int32))) fun σ12 =>
   lm_bd (F_X7_keeps σ12 x2 x2) fun σ14 =>
   some (((σ14 1 5) - (1 : Int32)), σ14))))
theorem in7_X7_adds : ∀ w ∈ u_ws RX7 TX7 14, w ∈ wsX7_adds := by decide +kernel
theorem fl7_X7_adds : Cond.fieldLink RX7 7 "LoopMemoModel" "s" "[I" ∈ wsX7_adds := by decide +kernel
set_option maxRecDepth 100000 in
set_option maxHeartbeats 4000000 in
theorem m_X7_adds (D : va_G) (z zo : ClassId) (l : Launch) (a : Nat → Nat) (σ : Hp) (x1 x2 x3 : Int32) (r : Int32) (σ' : Hp) (hF : F_X7_adds σ x1 x2 x3 = some (r, σ')) : lm_C D z zo l yX7_adds wsX7_adds 4 88 [.ref (a 0), .int x1, .int x2, .int x3] (mdW z a σ) (some (.int r)) (mdW z a σ') := by
  refine lm_C.of (by decide) rfl (Nat.le_of_ble_eq_true rfl) (own := RX7) rfl ?_
  intro p e s m_ args below meth c C hr hk hA
  show lm_St p l e ({ frames := 4, cells := 0, slots := 0, locals := 88 }) s m_ args below meth c D (va_A (mdW z a σ) s.heap.size) 6 0 0 (lm_End below D (some (.int r)) (mdW z a σ) (mdW z a σ') args s) false (mdW z a σ) 0 [(0, .ref (a 0)), (1, .int x1), (2, .int x2), (3, .int x3)] []
  rw [F_X7_adds] at hF
  refine lm_iload_n C dX7_adds_0 rfl 1 rfl rfl ?_
  refine lm_if_eq C (tgt := 9) dX7_adds_1 (by decide) rfl (fun c1 => ?_) (fun c1 => ?_)
  · have hF := lm_brt hF c1
    refine lm_bipush C (v := (57 : Int32)) dX7_adds_9 (by decide) rfl ?_
    refine lm_istore C (lv' := [(0, .ref (a 0)), (1, .int x1), (2, .int x2), (3, .int x3), (4, .int (57 : Int32))]) dX7_adds_11 (by decide) rfl [1, 2, 3, 4, 0] rfl rfl ?_
    refine lm_iload_n C dX7_adds_13 rfl 1 rfl rfl ?_
    refine lm_if_eq C (tgt := 21) dX7_adds_14 (by decide) rfl (fun c2 => ?_) (fun c2 => ?_)
    · refine lm_bipush C (v := (6 : Int32)) dX7_adds_21 (by decide) rfl ?_
      refine lm_istore C (lv' := [(0, .ref (a 0)), (1, .int x1), (2, .int x2), (3, .int x3), (4, .int (57 : Int32)), (5, .int (6 : Int32))]) dX7_adds_23 (by decide) rfl [1, 2, 3, 4, 5, 0] rfl rfl ?_
      refine lm_aload_n C dX7_adds_25 rfl 0 rfl rfl ?_
      refine lm_getf C (T := TX7) (N := 14) (v := .ref (a 1)) in7_X7_adds 0 rfl rfl 0 (by decide) fl7_X7_adds rfl rfl dX7_adds_26 rfl ?_
      refine lm_iload C dX7_adds_29 4 rfl rfl ?_
      refine lm_iconst C (v := (2 : Int32)) dX7_adds_31 (by decide) rfl ?_
      refine lm_aload_n C dX7_adds_32 rfl 0 rfl rfl ?_
      refine lm_getf C (T := TX7) (N := 14) (v := .ref (a 1)) in7_X7_adds 0 rfl rfl 0 (by decide) fl7_X7_adds rfl rfl dX7_adds_33 rfl ?_
      refine lm_iload C dX7_adds_36 5 rfl rfl ?_
      refine lm_iald C (v := (σ 1 6)) 1 rfl (by unfold vp_in; decide) rfl dX7_adds_38 rfl ?_
      refine lm_imul C dX7_adds_39 rfl rfl ?_
      refine lm_iadd C dX7_adds_40 rfl rfl ?_
      refine lm_iload_n C dX7_adds_41 rfl 2 rfl rfl ?_
      obtain ⟨b8, hF⟩ := lm_gie hF
      obtain ⟨σ3, eσ3, hF⟩ := lm_lte hF
      refine lm_iast C (w' := (mdW z a σ3)) 1 rfl b8 dX7_adds_42 (by rw [← eσ3]; rfl) rfl ?_
      refine lm_aload_n C dX7_adds_43 rfl 0 rfl rfl ?_
      refine lm_getf C (T := TX7) (N := 14) (v := .ref (a 1)) in7_X7_adds 0 rfl rfl 0 (by decide) fl7_X7_adds rfl rfl dX7_adds_44 rfl ?_
      refine lm_iload C dX7_adds_47 4 rfl rfl ?_
      refine lm_iconst C (v := (2 : Int32)) dX7_adds_49 (by decide) rfl ?_
      refine lm_aload_n C dX7_adds_50 rfl 0 rfl rfl ?_
      refine lm_getf C (T := TX7) (N := 14) (v := .ref (a 1)) in7_X7_adds 0 rfl rfl 0 (by decide) fl7_X7_adds rfl rfl dX7_adds_51 rfl ?_
      refine lm_iload C dX7_adds_54 5 rfl rfl ?_
      refine lm_iald C (v := (σ3 1 6)) 1 rfl (by unfold vp_in; decide) rfl dX7_adds_56 rfl ?_
      refine lm_imul C dX7_adds_57 rfl rfl ?_
      refine lm_iadd C dX7_adds_58 rfl rfl ?_
      refine lm_iconst C (v := (1 : Int32)) dX7_adds_59 (by decide) rfl ?_
      refine lm_iadd C dX7_adds_60 rfl rfl ?_
      refine lm_iload_n C dX7_adds_61 rfl 3 rfl rfl ?_
      obtain ⟨b7, hF⟩ := lm_gie hF
      obtain ⟨σ4, eσ4, hF⟩ := lm_lte hF
      refine lm_iast C (w' := (mdW z a σ4)) 1 rfl b7 dX7_adds_62 (by rw [← eσ4]; rfl) rfl ?_
      refine lm_aload_n C dX7_adds_63 rfl 0 rfl rfl ?_
      refine lm_getf C (T := TX7) (N := 14) (v := .ref (a 1)) in7_X7_adds 0 rfl rfl 0 (by decide) fl7_X7_adds rfl rfl dX7_adds_64 rfl ?_
      refine lm_iload C dX7_adds_67 5 rfl rfl ?_
      refine lm_dup2 C dX7_adds_69 rfl rfl rfl ?_
      refine lm_iald C (v := (σ4 1 6)) 1 rfl (by unfold vp_in; decide) rfl dX7_adds_70 rfl ?_
      refine lm_iconst C (v := (1 : Int32)) dX7_adds_71 (by decide) rfl ?_
      refine lm_iadd C dX7_adds_72 rfl rfl ?_
      obtain ⟨σ5, eσ5, hF⟩ := lm_lte hF
      refine lm_iast C (w' := (mdW z a σ5)) 1 rfl (by unfold vp_in; decide) dX7_adds_73 (by rw [← eσ5]; rfl) rfl ?_
      refine lm_iload_n C dX7_adds_74 rfl 1 rfl rfl ?_
      refine lm_if_eq C (tgt := 84) dX7_adds_75 (by decide) rfl (fun c6 => ?_) (fun c6 => ?_)
      · refine lm_aload_n C dX7_adds_84 rfl 0 rfl rfl ?_
        refine lm_getf C (T := TX7) (N := 14) (v := .ref (a 1)) in7_X7_adds 0 rfl rfl 0 (by decide) fl7_X7_adds rfl rfl dX7_adds_85 rfl ?_
        refine lm_iload C dX7_adds_88 5 rfl rfl ?_
        refine lm_iald C (v := (σ5 1 6)) 1 rfl (by unfold vp_in; decide) rfl dX7_adds_90 rfl ?_
        refine lm_iconst C (v := (1 : Int32)) dX7_adds_91 (by decide) rfl ?_
        refine lm_isub C dX7_adds_92 rfl rfl ?_
        cases hF
        exact lm_iret C hr hk rfl rfl dX7_adds_93
      · exact (by simp_all : False).elim
    · exact (by simp_all : False).elim
  · have hF := lm_brf hF c1
    refine lm_bipush C (v := (17 : Int32)) dX7_adds_4 (by decide) rfl ?_
    refine lm_goto C (tgt := 11) dX7_adds_6 (by decide) ?_
    refine lm_istore C (lv' := [(0, .ref (a 0)), (1, .int x1), (2, .int x2), (3, .int x3), (4, .int (17 : Int32))]) dX7_adds_11 (by decide) rfl [1, 2, 3, 4, 0] rfl rfl ?_
    refine lm_iload_n C dX7_adds_13 rfl 1 rfl rfl ?_
    refine lm_if_eq C (tgt := 21) dX7_adds_14 (by decide) rfl (fun c9 => ?_) (fun c9 => ?_)
    · exact (by simp_all : False).elim
    · refine lm_iconst C (v := (5 : Int32)) dX7_adds_17 (by decide) rfl ?_
      refine lm_goto C (tgt := 23) dX7_adds_18 (by decide) ?_
      refine lm_istore C (lv' := [(0, .ref (a 0)), (1, .int x1), (2, .int x2), (3, .int x3), (4, .int (17 : Int32)), (5, .int (5 : Int32))]) dX7_adds_23 (by decide) rfl [1, 2, 3, 4, 5, 0] rfl rfl ?_
      refine lm_aload_n C dX7_adds_25 rfl 0 rfl rfl ?_
      refine lm_getf C (T := TX7) (N := 14) (v := .ref (a 1)) in7_X7_adds 0 rfl rfl 0 (by decide) fl7_X7_adds rfl rfl dX7_adds_26 rfl ?_
      refine lm_iload C dX7_adds_29 4 rfl rfl ?_
      refine lm_iconst C (v := (2 : Int32)) dX7_adds_31 (by decide) rfl ?_
      refine lm_aload_n C dX7_adds_32 rfl 0 rfl rfl ?_
      refine lm_getf C (T := TX7) (N := 14) (v := .ref (a 1)) in7_X7_adds 0 rfl rfl 0 (by decide) fl7_X7_adds rfl rfl dX7_adds_33 rfl ?_
      refine lm_iload C dX7_adds_36 5 rfl rfl ?_
      refine lm_iald C (v := (σ 1 5)) 1 rfl (by unfold vp_in; decide) rfl dX7_adds_38 rfl ?_
      refine lm_imul C dX7_adds_39 rfl rfl ?_
      refine lm_iadd C dX7_adds_40 rfl rfl ?_
      refine lm_iload_n C dX7_adds_41 rfl 2 rfl rfl ?_
      obtain ⟨b16, hF⟩ := lm_gie hF
      obtain ⟨σ10, eσ10, hF⟩ := lm_lte hF
      refine lm_iast C (w' := (mdW z a σ10)) 1 rfl b16 dX7_adds_42 (by rw [← eσ10]; rfl) rfl ?_
      refine lm_aload_n C dX7_adds_43 rfl 0 rfl rfl ?_
      refine lm_getf C (T := TX7) (N := 14) (v := .ref (a 1)) in7_X7_adds 0 rfl rfl 0 (by decide) fl7_X7_adds rfl rfl dX7_adds_44 rfl ?_
      refine lm_iload C dX7_adds_47 4 rfl rfl ?_
      refine lm_iconst C (v := (2 : Int32)) dX7_adds_49 (by decide) rfl ?_
      refine lm_aload_n C dX7_adds_50 rfl 0 rfl rfl ?_
      refine lm_getf C (T := TX7) (N := 14) (v := .ref (a 1)) in7_X7_adds 0 rfl rfl 0 (by decide) fl7_X7_adds rfl rfl dX7_adds_51 rfl ?_
      refine lm_iload C dX7_adds_54 5 rfl rfl ?_
      refine lm_iald C (v := (σ10 1 5)) 1 rfl (by unfold vp_in; decide) rfl dX7_adds_56 rfl ?_
      refine lm_imul C dX7_adds_57 rfl rfl ?_
      refine lm_iadd C dX7_adds_58 rfl rfl ?_
      refine lm_iconst C (v := (1 : Int32)) dX7_adds_59 (by decide) rfl ?_
      refine lm_iadd C dX7_adds_60 rfl rfl ?_
      refine lm_iload_n C dX7_adds_61 rfl 3 rfl rfl ?_
      obtain ⟨b15, hF⟩ := lm_gie hF
      obtain ⟨σ11, eσ11, hF⟩ := lm_lte hF
      refine lm_iast C (w' := (mdW z a σ11)) 1 rfl b15 dX7_adds_62 (by rw [← eσ11]; rfl) rfl ?_
      refine lm_aload_n C dX7_adds_63 rfl 0 rfl rfl ?_
      refine lm_getf C (T := TX7) (N := 14) (v := .ref (a 1)) in7_X7_adds 0 rfl rfl 0 (by decide) fl7_X7_adds rfl rfl dX7_adds_64 rfl ?_
      refine lm_iload C dX7_adds_67 5 rfl rfl ?_
      refine lm_dup2 C dX7_adds_69 rfl rfl rfl ?_
      refine lm_iald C (v := (σ11 1 5)) 1 rfl (by unfold vp_in; decide) rfl dX7_adds_70 rfl ?_
      refine lm_iconst C (v := (1 : Int32)) dX7_adds_71 (by decide) rfl ?_
      refine lm_iadd C dX7_adds_72 rfl rfl ?_
      obtain ⟨σ12, eσ12, hF⟩ := lm_lte hF
      refine lm_iast C (w' := (mdW z a σ12)) 1 rfl (by unfold vp_in; decide) dX7_adds_73 (by rw [← eσ12]; rfl) rfl ?_
      refine lm_iload_n C dX7_adds_74 rfl 1 rfl rfl ?_
      refine lm_if_eq C (tgt := 84) dX7_adds_75 (by decide) rfl (fun c13 => ?_) (fun c13 => ?_)
      · exact (by simp_all : False).elim
      · refine lm_aload_n C dX7_adds_78 rfl 0 rfl rfl ?_
        refine lm_iload_n C dX7_adds_79 rfl 2 rfl rfl ?_
        refine lm_iload_n C dX7_adds_80 rfl 2 rfl rfl ?_
        obtain ⟨σ14, qσ14, hF⟩ := lm_bde hF
        refine lm_callV C (n := 2) (ci := 7) (w' := (mdW z a σ14)) hA (m_X7_keeps D z zo l a σ12 x2 x2 σ14 qσ14) gX7_adds_X7_keeps rfl (by decide +kernel) ⟨Nat.le_of_ble_eq_true rfl, Nat.le_of_ble_eq_true rfl⟩ ⟨Nat.le_of_ble_eq_true rfl, Nat.le_of_ble_eq_true rfl⟩ 0 rfl rfl lm_pr lm_pr' rfl rfl (Nat.le_of_ble_eq_true rfl) dX7_adds_81 (st' := []) rfl rfl ?_
        refine lm_aload_n C dX7_adds_84 rfl 0 rfl rfl ?_
        refine lm_getf C (T := TX7) (N := 14) (v := .ref (a 1)) in7_X7_adds 0 rfl rfl 0 (by decide) fl7_X7_adds rfl rfl dX7_adds_85 rfl ?_
        refine lm_iload C dX7_adds_88 5 rfl rfl ?_
        refine lm_iald C (v := (σ14 1 5)) 1 rfl (by unfold vp_in; decide) rfl dX7_adds_90 rfl ?_
        refine lm_iconst C (v := (1 : Int32)) dX7_adds_91 (by decide) rfl ?_
        refine lm_isub C dX7_adds_92 rfl rfl ?_
        cases hF
        exact lm_iret C hr hk rfl rfl dX7_adds_93
def F_X7_add (σ : Hp) (x1 x2 x3 : Int32) : Option (Int32 × (Hp)) :=
  lm_bd (F_X7_isRowOf x2 x3) fun r1 =>
  lm_br (¬ r1 = 0)
   (lm_br (x1 = 0)
    (lm_br (¬ (σ 1 6) = (20 : Int32))
     (lm_bd (F_X7_changes σ) fun σ5 =>
     lm_b2 (F_X7_adds σ5 x1 x2 x3) fun r7 σ6 =>
     some (r7, σ6))
     (some ((-3 : Int32), σ)))
    (lm_br (¬ (σ 1 5) = (20 : Int32))
     (lm_bd (F_X7_changes σ) fun σ9 =>
     lm_b2 (F_X7_adds σ9 x1 x2 x3) fun r11 σ10 =>
     some (r11, σ10))
     (some ((-3 : Int32), σ))))
   (some ((-1 : Int32), σ))
theorem in7_X7_add : ∀ w ∈ u_ws RX7 TX7 14, w ∈ wsX7_add := by decide +kernel
theorem fl7_X7_add : Cond.fieldLink RX7 7 "LoopMemoModel" "s" "[I" ∈ wsX7_add := by decide +kernel
set_option maxRecDepth 100000 in
set_option maxHeartbeats 4000000 in
theorem m_X7_add (D : va_G) (z zo : ClassId) (l : Launch) (a : Nat → Nat) (σ : Hp) (x1 x2 x3 : Int32) (r : Int32) (σ' : Hp) (hF : F_X7_add σ x1 x2 x3 = some (r, σ')) : lm_C D z zo l yX7_add wsX7_add 5 113 [.ref (a 0), .int x1, .int x2, .int x3] (mdW z a σ) (some (.int r)) (mdW z a σ') := by
  refine lm_C.of (by decide) rfl (Nat.le_of_ble_eq_true rfl) (own := RX7) rfl ?_
  intro p e s m_ args below meth c C hr hk hA
  show lm_St p l e ({ frames := 5, cells := 0, slots := 0, locals := 113 }) s m_ args below meth c D (va_A (mdW z a σ) s.heap.size) 4 0 0 (lm_End below D (some (.int r)) (mdW z a σ) (mdW z a σ') args s) false (mdW z a σ) 0 [(0, .ref (a 0)), (1, .int x1), (2, .int x2), (3, .int x3)] []
  rw [F_X7_add] at hF
  refine lm_iload_n C dX7_add_0 rfl 2 rfl rfl ?_
  refine lm_iload_n C dX7_add_1 rfl 3 rfl rfl ?_
  obtain ⟨r1, qr1, hF⟩ := lm_bde hF
  refine lm_callSR C (n := 2) (m_X7_isRowOf D z zo l   x2 x3 r1 qr1) gX7_add_X7_isRowOf rfl (by decide +kernel) ⟨Nat.le_of_ble_eq_true rfl, Nat.le_of_ble_eq_true rfl⟩ ⟨Nat.le_of_ble_eq_true rfl, Nat.le_of_ble_eq_true rfl⟩ (fun _ h => absurd h List.not_mem_nil) rfl rfl (Nat.le_of_ble_eq_true rfl) dX7_add_2 (st' := [.int r1]) rfl rfl ?_
  refine lm_if_ne C (tgt := 10) dX7_add_5 (by decide) rfl (fun c2 => ?_) (fun c2 => ?_)
  · have hF := lm_brt hF c2
    refine lm_aload_n C dX7_add_10 rfl 0 rfl rfl ?_
    refine lm_getf C (T := TX7) (N := 14) (v := .ref (a 1)) in7_X7_add 0 rfl rfl 0 (by decide) fl7_X7_add rfl rfl dX7_add_11 rfl ?_
    refine lm_iload_n C dX7_add_14 rfl 1 rfl rfl ?_
    refine lm_if_eq C (tgt := 22) dX7_add_15 (by decide) rfl (fun c3 => ?_) (fun c3 => ?_)
    · have hF := lm_brt hF c3
      refine lm_bipush C (v := (6 : Int32)) dX7_add_22 (by decide) rfl ?_
      refine lm_iald C (v := (σ 1 6)) 1 rfl (by unfold vp_in; decide) rfl dX7_add_24 rfl ?_
      refine lm_bipush C (v := (20 : Int32)) dX7_add_25 (by decide) rfl ?_
      refine lm_icmp_ne C (tgt := 33) dX7_add_27 (by decide) rfl (fun c4 => ?_) (fun c4 => ?_)
      · have hF := lm_brt hF c4
        refine lm_aload_n C dX7_add_33 rfl 0 rfl rfl ?_
        obtain ⟨σ5, qσ5, hF⟩ := lm_bde hF
        refine lm_callV C (n := 0) (ci := 7) (w' := (mdW z a σ5)) hA (m_X7_changes D z zo l a σ  σ5 qσ5) gX7_add_X7_changes rfl (by decide +kernel) ⟨Nat.le_of_ble_eq_true rfl, Nat.le_of_ble_eq_true rfl⟩ ⟨Nat.le_of_ble_eq_true rfl, Nat.le_of_ble_eq_true rfl⟩ 0 rfl rfl lm_pr lm_pr' rfl rfl (Nat.le_of_ble_eq_true rfl) dX7_add_34 (st' := []) rfl rfl ?_
        refine lm_aload_n C dX7_add_37 rfl 0 rfl rfl ?_
        refine lm_iload_n C dX7_add_38 rfl 1 rfl rfl ?_
        refine lm_iload_n C dX7_add_39 rfl 2 rfl rfl ?_
        refine lm_iload_n C dX7_add_40 rfl 3 rfl rfl ?_
        obtain ⟨r7, σ6, qσ6, hF⟩ := lm_b2e hF
        refine lm_callV C (n := 3) (ci := 7) (w' := (mdW z a σ6)) hA (m_X7_adds D z zo l a σ5 x1 x2 x3 r7 σ6 qσ6) gX7_add_X7_adds rfl (by decide +kernel) ⟨Nat.le_of_ble_eq_true rfl, Nat.le_of_ble_eq_true rfl⟩ ⟨Nat.le_of_ble_eq_true rfl, Nat.le_of_ble_eq_true rfl⟩ 0 rfl rfl lm_pr lm_pr' rfl rfl (Nat.le_of_ble_eq_true rfl) dX7_add_41 (st' := [.int r7]) rfl rfl ?_
        cases hF
        exact lm_iret C hr hk rfl rfl dX7_add_44
      · have hF := lm_brf hF c4
        refine lm_bipush C (v := (-3 : Int32)) dX7_add_30 (by decide) rfl ?_
        cases hF
        exact lm_iret C hr hk rfl rfl dX7_add_32
    · have hF := lm_brf hF c3
      refine lm_iconst C (v := (5 : Int32)) dX7_add_18 (by decide) rfl ?_
      refine lm_goto C (tgt := 24) dX7_add_19 (by decide) ?_
      refine lm_iald C (v := (σ 1 5)) 1 rfl (by unfold vp_in; decide) rfl dX7_add_24 rfl ?_
      refine lm_bipush C (v := (20 : Int32)) dX7_add_25 (by decide) rfl ?_
      refine lm_icmp_ne C (tgt := 33) dX7_add_27 (by decide) rfl (fun c8 => ?_) (fun c8 => ?_)
      · have hF := lm_brt hF c8
        refine lm_aload_n C dX7_add_33 rfl 0 rfl rfl ?_
        obtain ⟨σ9, qσ9, hF⟩ := lm_bde hF
        refine lm_callV C (n := 0) (ci := 7) (w' := (mdW z a σ9)) hA (m_X7_changes D z zo l a σ  σ9 qσ9) gX7_add_X7_changes rfl (by decide +kernel) ⟨Nat.le_of_ble_eq_true rfl, Nat.le_of_ble_eq_true rfl⟩ ⟨Nat.le_of_ble_eq_true rfl, Nat.le_of_ble_eq_true rfl⟩ 0 rfl rfl lm_pr lm_pr' rfl rfl (Nat.le_of_ble_eq_true rfl) dX7_add_34 (st' := []) rfl rfl ?_
        refine lm_aload_n C dX7_add_37 rfl 0 rfl rfl ?_
        refine lm_iload_n C dX7_add_38 rfl 1 rfl rfl ?_
        refine lm_iload_n C dX7_add_39 rfl 2 rfl rfl ?_
        refine lm_iload_n C dX7_add_40 rfl 3 rfl rfl ?_
        obtain ⟨r11, σ10, qσ10, hF⟩ := lm_b2e hF
        refine lm_callV C (n := 3) (ci := 7) (w' := (mdW z a σ10)) hA (m_X7_adds D z zo l a σ9 x1 x2 x3 r11 σ10 qσ10) gX7_add_X7_adds rfl (by decide +kernel) ⟨Nat.le_of_ble_eq_true rfl, Nat.le_of_ble_eq_true rfl⟩ ⟨Nat.le_of_ble_eq_true rfl, Nat.le_of_ble_eq_true rfl⟩ 0 rfl rfl lm_pr lm_pr' rfl rfl (Nat.le_of_ble_eq_true rfl) dX7_add_41 (st' := [.int r11]) rfl rfl ?_
        cases hF
        exact lm_iret C hr hk rfl rfl dX7_add_44
      · have hF := lm_brf hF c8
        refine lm_bipush C (v := (-3 : Int32)) dX7_add_30 (by decide) rfl ?_
        cases hF
        exact lm_iret C hr hk rfl rfl dX7_add_32
  · have hF := lm_brf hF c2
    refine lm_iconst C (v := (-1 : Int32)) dX7_add_8 (by decide) rfl ?_
    cases hF
    exact lm_iret C hr hk rfl rfl dX7_add_9
def F_X7_drop_L81 : Nat → Hp → Int32 → Int32 → Int32 → Int32 → Int32 → Int32 → Option (Int32 × (Hp))
  | 0, _, _, _, _, _, _, _ => none
  | n + 1, σx, x1, x2, x3, x4, x5, x6 =>
    lm_gi x4 127
    (lm_br (((2 : Int32) * (σx 1 x4.toNatClampNeg)) ≤ x6)
     (lm_br (x1 = 0)
      (lm_br ((σx 1 7) ≤ x2)
       (lm_lt (lm_u σx 1 7 ((σx 1 7) - (0 : Int32))) fun σ14 =>
       lm_gi x4 127
       (some ((σ14 1 x4.toNatClampNeg), σ14)))
       (lm_lt (lm_u σx 1 7 ((σx 1 7) - (1 : Int32))) fun σ16 =>
       lm_gi x4 127
       (some ((σ16 1 x4.toNatClampNeg), σ16))))
      (lm_bd (F_X7_keeps σx x5 x5) fun σ18 =>
      lm_gi x4 127
      (some ((σ18 1 x4.toNatClampNeg), σ18))))
     (lm_gi ((x3 + x6) + (2 : Int32)) 127
     (lm_gi (x3 + x6) 127
     (lm_lt (lm_u σx 1 (((x3 + x6)).toNatClampNeg) (σx 1 (((x3 + x6) + (2 : Int32))).toNatClampNeg)) fun σ21 =>
     F_X7_drop_L81 n σ21 x1 x2 x3 x4 x5 (x6 + (1 : Int32))))))
def F_X7_drop (σ : Hp) (x1 x2 : Int32) : Option (Int32 × (Hp)) :=
  lm_br (x1 = 0)
   (lm_bd (F_X7_isOuter σ x2) fun r2 =>
   lm_br (¬ r2 = 0)
    (lm_bd (F_X7_changes σ) fun σ4 =>
    lm_gi ((57 : Int32) + ((2 : Int32) * x2)) 127
    (lm_lt (σ4 1 (((57 : Int32) + ((2 : Int32) * x2))).toNatClampNeg) fun t8 =>
    lm_lt (lm_u σ4 1 6 ((σ4 1 6) - (1 : Int32))) fun σ9 =>
    F_X7_drop_L81 1000 σ9 x1 x2 (57 : Int32) (6 : Int32) t8 ((2 : Int32) * x2)))
    (some ((-1 : Int32), σ)))
   (lm_bd (F_X7_isInner σ x2) fun r23 =>
   lm_br (¬ r23 = 0)
    (lm_bd (F_X7_changes σ) fun σ25 =>
    lm_gi ((17 : Int32) + ((2 : Int32) * x2)) 127
    (lm_lt (σ25 1 (((17 : Int32) + ((2 : Int32) * x2))).toNatClampNeg) fun t29 =>
    lm_lt (lm_u σ25 1 5 ((σ25 1 5) - (1 : Int32))) fun σ30 =>
    F_X7_drop_L81 1000 σ30 x1 x2 (17 : Int32) (5 : Int32) t29 ((2 : Int32) * x2)))
    (some ((-1 : Int32), σ)))
theorem in7_X7_drop : ∀ w ∈ u_ws RX7 TX7 14, w ∈ wsX7_drop := by decide +kernel
theorem fl7_X7_drop : Cond.fieldLink RX7 7 "LoopMemoModel" "s" "[I" ∈ wsX7_drop := by decide +kernel
set_option maxRecDepth 100000 in
set_option maxHeartbeats 4000000 in
theorem m_X7_drop (D : va_G) (z zo : ClassId) (l : Launch) (a : Nat → Nat) (σ : Hp) (x1 x2 : Int32) (r : Int32) (σ' : Hp) (hF : F_X7_drop σ x1 x2 = some (r, σ')) : lm_C D z zo l yX7_drop wsX7_drop 4 88 [.ref (a 0), .int x1, .int x2] (mdW z a σ) (some (.int r)) (mdW z a σ') := by
  refine lm_C.of (by decide) rfl (Nat.le_of_ble_eq_true rfl) (own := RX7) rfl ?_
  intro p e s m_ args below meth c C hr hk hA
  have loop_81 : ∀ (n : Nat) (σx : Hp) (x1 : Int32) (x2 : Int32) (x3 : Int32) (x4 : Int32) (x5 : Int32) (x6 : Int32), F_X7_drop_L81 n σx x1 x2 x3 x4 x5 x6 = some (r, σ') → lm_St p l e ({ frames := 4, cells := 0, slots := 0, locals := 88 }) s m_ args below meth c D (va_A (mdW z a σ) s.heap.size) 7 0 0 (lm_End below D (some (.int r)) (mdW z a σ) (mdW z a σ') args s) false (mdW z a σx) 81 [(0, .ref (a 0)), (1, .int x1), (2, .int x2), (3, .int x3), (4, .int x4), (5, .int x5), (6, .int x6)] [] := by
    intro n
    induction n with
    | zero => intro σx x1 x2 x3 x4 x5 x6 hF; cases (show (none : Option _) = some _ from hF)
    | succ n ih =>
      intro σx x1 x2 x3 x4 x5 x6 hF
      rw [F_X7_drop_L81] at hF
      refine lm_iload C dX7_drop_81 6 rfl rfl ?_
      refine lm_iconst C (v := (2 : Int32)) dX7_drop_83 (by decide) rfl ?_
      refine lm_aload_n C dX7_drop_84 rfl 0 rfl rfl ?_
      refine lm_getf C (T := TX7) (N := 14) (v := .ref (a 1)) in7_X7_drop 0 rfl rfl 0 (by decide) fl7_X7_drop rfl rfl dX7_drop_85 rfl ?_
      refine lm_iload C dX7_drop_88 4 rfl rfl ?_
      obtain ⟨b10, hF⟩ := lm_gie hF
      refine lm_iald C (v := (σx 1 x4.toNatClampNeg)) 1 rfl b10 rfl dX7_drop_90 rfl ?_
      refine lm_imul C dX7_drop_91 rfl rfl ?_
      refine lm_icmp_ge C (tgt := 121) dX7_drop_92 (by decide) rfl (fun c11 => ?_) (fun c11 => ?_)
      · have hF := lm_brt hF c11
        refine lm_iload_n C dX7_drop_121 rfl 1 rfl rfl ?_
        refine lm_if_eq C (tgt := 136) dX7_drop_122 (by decide) rfl (fun c12 => ?_) (fun c12 => ?_)
        · have hF := lm_brt hF c12
          refine lm_aload_n C dX7_drop_136 rfl 0 rfl rfl ?_
          refine lm_getf C (T := TX7) (N := 14) (v := .ref (a 1)) in7_X7_drop 0 rfl rfl 0 (by decide) fl7_X7_drop rfl rfl dX7_drop_137 rfl ?_
          refine lm_bipush C (v := (7 : Int32)) dX7_drop_140 (by decide) rfl ?_
          refine lm_dup2 C dX7_drop_142 rfl rfl rfl ?_
          refine lm_iald C (v := (σx 1 7)) 1 rfl (by unfold vp_in; decide) rfl dX7_drop_143 rfl ?_
          refine lm_iload_n C dX7_drop_144 rfl 2 rfl rfl ?_
          refine lm_aload_n C dX7_drop_145 rfl 0 rfl rfl ?_
          refine lm_getf C (T := TX7) (N := 14) (v := .ref (a 1)) in7_X7_drop 0 rfl rfl 0 (by decide) fl7_X7_drop rfl rfl dX7_drop_146 rfl ?_
          refine lm_bipush C (v := (7 : Int32)) dX7_drop_149 (by decide) rfl ?_
          refine lm_iald C (v := (σx 1 7)) 1 rfl (by unfold vp_in; decide) rfl dX7_drop_151 rfl ?_
          refine lm_icmp_ge C (tgt := 159) dX7_drop_152 (by decide) rfl (fun c13 => ?_) (fun c13 => ?_)
          · have hF := lm_brt hF c13
            refine lm_iconst C (v := (0 : Int32)) dX7_drop_159 (by decide) rfl ?_
            refine lm_isub C dX7_drop_160 rfl rfl ?_
            obtain ⟨σ14, eσ14, hF⟩ := lm_lte hF
            refine lm_iast C (w' := (mdW z a σ14)) 1 rfl (by unfold vp_in; decide) dX7_drop_161 (by rw [← eσ14]; rfl) rfl ?_
            refine lm_aload_n C dX7_drop_162 rfl 0 rfl rfl ?_
            refine lm_getf C (T := TX7) (N := 14) (v := .ref (a 1)) in7_X7_drop 0 rfl rfl 0 (by decide) fl7_X7_drop rfl rfl dX7_drop_163 rfl ?_
            refine lm_iload C dX7_drop_166 4 rfl rfl ?_
            obtain ⟨b15, hF⟩ := lm_gie hF
            refine lm_iald C (v := (σ14 1 x4.toNatClampNeg)) 1 rfl b15 rfl dX7_drop_168 rfl ?_
            cases hF
            exact lm_iret C hr hk rfl rfl dX7_drop_169
          · have hF := lm_brf hF c13
            refine lm_iconst C (v := (1 : Int32)) dX7_drop_155 (by decide) rfl ?_
            refine lm_goto C (tgt := 160) dX7_drop_156 (by decide) ?_
            refine lm_isub C dX7_drop_160 rfl rfl ?_
            obtain ⟨σ16, eσ16, hF⟩ := lm_lte hF
            refine lm_iast C (w' := (mdW z a σ16)) 1 rfl (by unfold vp_in; decide) dX7_drop_161 (by rw [← eσ16]; rfl) rfl ?_
            refine lm_aload_n C dX7_drop_162 rfl 0 rfl rfl ?_
            refine lm_getf C (T := TX7) (N := 14) (v := .ref (a 1)) in7_X7_drop 0 rfl rfl 0 (by decide) fl7_X7_drop rfl rfl dX7_drop_163 rfl ?_
            refine lm_iload C dX7_drop_166 4 rfl rfl ?_
            obtain ⟨b17, hF⟩ := lm_gie hF
            refine lm_iald C (v := (σ16 1 x4.toNatClampNeg)) 1 rfl b17 rfl dX7_drop_168 rfl ?_
            cases hF
            exact lm_iret C hr hk rfl rfl dX7_drop_169
        · have hF := lm_brf hF c12
          refine lm_aload_n C dX7_drop_125 rfl 0 rfl rfl ?_
          refine lm_iload C dX7_drop_126 5 rfl rfl ?_
          refine lm_iload C dX7_drop_128 5 rfl rfl ?_
          obtain ⟨σ18, qσ18, hF⟩ := lm_bde hF
          refine lm_callV C (n := 2) (ci := 7) (w' := (mdW z a σ18)) hA (m_X7_keeps D z zo l a σx x5 x5 σ18 qσ18) gX7_drop_X7_keeps rfl (by decide +kernel) ⟨Nat.le_of_ble_eq_true rfl, Nat.le_of_ble_eq_true rfl⟩ ⟨Nat.le_of_ble_eq_true rfl, Nat.le_of_ble_eq_true rfl⟩ 0 rfl rfl lm_pr lm_pr' rfl rfl (Nat.le_of_ble_eq_true rfl) dX7_drop_130 (st' := []) rfl rfl ?_
          refine lm_goto C (tgt := 162) dX7_drop_133 (by decide) ?_
          refine lm_aload_n C dX7_drop_162 rfl 0 rfl rfl ?_
          refine lm_getf C (T := TX7) (N := 14) (v := .ref (a 1)) in7_X7_drop 0 rfl rfl 0 (by decide) fl7_X7_drop rfl rfl dX7_drop_163 rfl ?_
          refine lm_iload C dX7_drop_166 4 rfl rfl ?_
          obtain ⟨b19, hF⟩ := lm_gie hF
          refine lm_iald C (v := (σ18 1 x4.toNatClampNeg)) 1 rfl b19 rfl dX7_drop_168 rfl ?_
          cases hF
          exact lm_iret C hr hk rfl rfl dX7_drop_169
      · have hF := lm_brf hF c11
        refine lm_aload_n C dX7_drop_95 rfl 0 rfl rfl ?_
        refine lm_getf C (T := TX7) (N := 14) (v := .ref (a 1)) in7_X7_drop 0 rfl rfl 0 (by decide) fl7_X7_drop rfl rfl dX7_drop_96 rfl ?_
        refine lm_iload_n C dX7_drop_99 rfl 3 rfl rfl ?_
        refine lm_iload C dX7_drop_100 6 rfl rfl ?_
        refine lm_iadd C dX7_drop_102 rfl rfl ?_
        refine lm_aload_n C dX7_drop_103 rfl 0 rfl rfl ?_
        refine lm_getf C (T := TX7) (N := 14) (v := .ref (a 1)) in7_X7_drop 0 rfl rfl 0 (by decide) fl7_X7_drop rfl rfl dX7_drop_104 rfl ?_
        refine lm_iload_n C dX7_drop_107 rfl 3 rfl rfl ?_
        refine lm_iload C dX7_drop_108 6 rfl rfl ?_
        refine lm_iadd C dX7_drop_110 rfl rfl ?_
        refine lm_iconst C (v := (2 : Int32)) dX7_drop_111 (by decide) rfl ?_
        refine lm_iadd C dX7_drop_112 rfl rfl ?_
        obtain ⟨b20, hF⟩ := lm_gie hF
        refine lm_iald C (v := (σx 1 (((x3 + x6) + (2 : Int32))).toNatClampNeg)) 1 rfl b20 rfl dX7_drop_113 rfl ?_
        obtain ⟨b22, hF⟩ := lm_gie hF
        obtain ⟨σ21, eσ21, hF⟩ := lm_lte hF
        refine lm_iast C (w' := (mdW z a σ21)) 1 rfl b22 dX7_drop_114 (by rw [← eσ21]; rfl) rfl ?_
        refine lm_iinc C (lv' := [(0, .ref (a 0)), (1, .int x1), (2, .int x2), (3, .int x3), (4, .int x4), (5, .int x5), (6, .int (x6 + (1 : Int32)))]) (x6 + (1 : Int32)) dX7_drop_115 6 rfl rfl (by decide) rfl [1, 2, 3, 4, 5, 6, 0] rfl rfl ?_
        refine lm_goto C (tgt := 81) dX7_drop_118 (by decide) ?_
        exact ih σ21 x1 x2 x3 x4 x5 (x6 + (1 : Int32)) hF
  show lm_St p l e ({ frames := 4, cells := 0, slots := 0, locals := 88 }) s m_ args below meth c D (va_A (mdW z a σ) s.heap.size) 7 0 0 (lm_End below D (some (.int r)) (mdW z a σ) (mdW z a σ') args s) false (mdW z a σ) 0 [(0, .ref (a 0)), (1, .int x1), (2, .int x2)] []
  rw [F_X7_drop] at hF
  refine lm_iload_n C dX7_drop_0 rfl 1 rfl rfl ?_
  refine lm_if_eq C (tgt := 15) dX7_drop_1 (by decide) rfl (fun c1 => ?_) (fun c1 => ?_)
  · have hF := lm_brt hF c1
    refine lm_aload_n C dX7_drop_15 rfl 0 rfl rfl ?_
    refine lm_iload_n C dX7_drop_16 rfl 2 rfl rfl ?_
    obtain ⟨r2, qr2, hF⟩ := lm_bde hF
    refine lm_callVR C (n := 1) (ci := 7) (m_X7_isOuter D z zo l a σ x2 r2 qr2) gX7_drop_X7_isOuter rfl (by decide +kernel) ⟨Nat.le_of_ble_eq_true rfl, Nat.le_of_ble_eq_true rfl⟩ ⟨Nat.le_of_ble_eq_true rfl, Nat.le_of_ble_eq_true rfl⟩ 0 rfl rfl (fun _ h => h) rfl rfl (Nat.le_of_ble_eq_true rfl) dX7_drop_17 (st' := [.int r2]) rfl rfl ?_
    refine lm_if_ne C (tgt := 25) dX7_drop_20 (by decide) rfl (fun c3 => ?_) (fun c3 => ?_)
    · have hF := lm_brt hF c3
      refine lm_aload_n C dX7_drop_25 rfl 0 rfl rfl ?_
      obtain ⟨σ4, qσ4, hF⟩ := lm_bde hF
      refine lm_callV C (n := 0) (ci := 7) (w' := (mdW z a σ4)) hA (m_X7_changes D z zo l a σ  σ4 qσ4) gX7_drop_X7_changes rfl (by decide +kernel) ⟨Nat.le_of_ble_eq_true rfl, Nat.le_of_ble_eq_true rfl⟩ ⟨Nat.le_of_ble_eq_true rfl, Nat.le_of_ble_eq_true rfl⟩ 0 rfl rfl lm_pr lm_pr' rfl rfl (Nat.le_of_ble_eq_true rfl) dX7_drop_26 (st' := []) rfl rfl ?_
      refine lm_iload_n C dX7_drop_29 rfl 1 rfl rfl ?_
      refine lm_if_eq C (tgt := 38) dX7_drop_30 (by decide) rfl (fun c5 => ?_) (fun c5 => ?_)
      · refine lm_bipush C (v := (57 : Int32)) dX7_drop_38 (by decide) rfl ?_
        refine lm_istore_n C (lv' := [(0, .ref (a 0)), (1, .int x1), (2, .int x2), (3, .int (57 : Int32))]) dX7_drop_40 rfl (by decide) rfl [1, 2, 3, 0] rfl rfl ?_
        refine lm_iload_n C dX7_drop_41 rfl 1 rfl rfl ?_
        refine lm_if_eq C (tgt := 49) dX7_drop_42 (by decide) rfl (fun c6 => ?_) (fun c6 => ?_)
        · refine lm_bipush C (v := (6 : Int32)) dX7_drop_49 (by decide) rfl ?_
          refine lm_istore C (lv' := [(0, .ref (a 0)), (1, .int x1), (2, .int x2), (3, .int (57 : Int32)), (4, .int (6 : Int32))]) dX7_drop_51 (by decide) rfl [1, 2, 3, 4, 0] rfl rfl ?_
          refine lm_aload_n C dX7_drop_53 rfl 0 rfl rfl ?_
          refine lm_getf C (T := TX7) (N := 14) (v := .ref (a 1)) in7_X7_drop 0 rfl rfl 0 (by decide) fl7_X7_drop rfl rfl dX7_drop_54 rfl ?_
          refine lm_iload_n C dX7_drop_57 rfl 3 rfl rfl ?_
          refine lm_iconst C (v := (2 : Int32)) dX7_drop_58 (by decide) rfl ?_
          refine lm_iload_n C dX7_drop_59 rfl 2 rfl rfl ?_
          refine lm_imul C dX7_drop_60 rfl rfl ?_
          refine lm_iadd C dX7_drop_61 rfl rfl ?_
          obtain ⟨b7, hF⟩ := lm_gie hF
          refine lm_iald C (v := (σ4 1 (((57 : Int32) + ((2 : Int32) * x2))).toNatClampNeg)) 1 rfl b7 rfl dX7_drop_62 rfl ?_
          obtain ⟨t8, et8, hF⟩ := lm_lte hF
          rw [et8]
          refine lm_istore C (lv' := [(0, .ref (a 0)), (1, .int x1), (2, .int x2), (3, .int (57 : Int32)), (4, .int (6 : Int32)), (5, .int t8)]) dX7_drop_63 (by decide) rfl [1, 2, 3, 4, 5, 0] rfl rfl ?_
          refine lm_aload_n C dX7_drop_65 rfl 0 rfl rfl ?_
          refine lm_getf C (T := TX7) (N := 14) (v := .ref (a 1)) in7_X7_drop 0 rfl rfl 0 (by decide) fl7_X7_drop rfl rfl dX7_drop_66 rfl ?_
          refine lm_iload C dX7_drop_69 4 rfl rfl ?_
          refine lm_dup2 C dX7_drop_71 rfl rfl rfl ?_
          refine lm_iald C (v := (σ4 1 6)) 1 rfl (by unfold vp_in; decide) rfl dX7_drop_72 rfl ?_
          refine lm_iconst C (v := (1 : Int32)) dX7_drop_73 (by decide) rfl ?_
          refine lm_isub C dX7_drop_74 rfl rfl ?_
          obtain ⟨σ9, eσ9, hF⟩ := lm_lte hF
          refine lm_iast C (w' := (mdW z a σ9)) 1 rfl (by unfold vp_in; decide) dX7_drop_75 (by rw [← eσ9]; rfl) rfl ?_
          refine lm_iconst C (v := (2 : Int32)) dX7_drop_76 (by decide) rfl ?_
          refine lm_iload_n C dX7_drop_77 rfl 2 rfl rfl ?_
          refine lm_imul C dX7_drop_78 rfl rfl ?_
          refine lm_istore C (lv' := [(0, .ref (a 0)), (1, .int x1), (2, .int x2), (3, .int (57 : Int32)), (4, .int (6 : Int32)), (5, .int t8), (6, .int ((2 : Int32) * x2))]) dX7_drop_79 (by decide) rfl [1, 2, 3, 4, 5, 6, 0] rfl rfl ?_
          exact loop_81 1000 σ9 x1 x2 (57 : Int32) (6 : Int32) t8 ((2 : Int32) * x2) hF
        · exact (by simp_all : False).elim
      · exact (by simp_all : False).elim
    · have hF := lm_brf hF c3
      refine lm_iconst C (v := (-1 : Int32)) dX7_drop_23 (by decide) rfl ?_
      cases hF
      exact lm_iret C hr hk rfl rfl dX7_drop_24
  · have hF := lm_brf hF c1
    refine lm_aload_n C dX7_drop_4 rfl 0 rfl rfl ?_
    refine lm_iload_n C dX7_drop_5 rfl 2 rfl rfl ?_
    obtain ⟨r23, qr23, hF⟩ := lm_bde hF
    refine lm_callVR C (n := 1) (ci := 7) (m_X7_isInner D z zo l a σ x2 r23 qr23) gX7_drop_X7_isInner rfl (by decide +kernel) ⟨Nat.le_of_ble_eq_true rfl, Nat.le_of_ble_eq_true rfl⟩ ⟨Nat.le_of_ble_eq_true rfl, Nat.le_of_ble_eq_true rfl⟩ 0 rfl rfl (fun _ h => h) rfl rfl (Nat.le_of_ble_eq_true rfl) dX7_drop_6 (st' := [.int r23]) rfl rfl ?_
    refine lm_if_ne C (tgt := 25) dX7_drop_9 (by decide) rfl (fun c24 => ?_) (fun c24 => ?_)
    · have hF := lm_brt hF c24
      refine lm_aload_n C dX7_drop_25 rfl 0 rfl rfl ?_
      obtain ⟨σ25, qσ25, hF⟩ := lm_bde hF
      refine lm_callV C (n := 0) (ci := 7) (w' := (mdW z a σ25)) hA (m_X7_changes D z zo l a σ  σ25 qσ25) gX7_drop_X7_changes rfl (by decide +kernel) ⟨Nat.le_of_ble_eq_true rfl, Nat.le_of_ble_eq_true rfl⟩ ⟨Nat.le_of_ble_eq_true rfl, Nat.le_of_ble_eq_true rfl⟩ 0 rfl rfl lm_pr lm_pr' rfl rfl (Nat.le_of_ble_eq_true rfl) dX7_drop_26 (st' := []) rfl rfl ?_
      refine lm_iload_n C dX7_drop_29 rfl 1 rfl rfl ?_
      refine lm_if_eq C (tgt := 38) dX7_drop_30 (by decide) rfl (fun c26 => ?_) (fun c26 => ?_)
      · exact (by simp_all : False).elim
      · refine lm_bipush C (v := (17 : Int32)) dX7_drop_33 (by decide) rfl ?_
        refine lm_goto C (tgt := 40) dX7_drop_35 (by decide) ?_
        refine lm_istore_n C (lv' := [(0, .ref (a 0)), (1, .int x1), (2, .int x2), (3, .int (17 : Int32))]) dX7_drop_40 rfl (by decide) rfl [1, 2, 3, 0] rfl rfl ?_
        refine lm_iload_n C dX7_drop_41 rfl 1 rfl rfl ?_
        refine lm_if_eq C (tgt := 49) dX7_drop_42 (by decide) rfl (fun c27 => ?_) (fun c27 => ?_)
        · exact (by simp_all : False).elim
        · refine lm_iconst C (v := (5 : Int32)) dX7_drop_45 (by decide) rfl ?_
          refine lm_goto C (tgt := 51) dX7_drop_46 (by decide) ?_
          refine lm_istore C (lv' := [(0, .ref (a 0)), (1, .int x1), (2, .int x2), (3, .int (17 : Int32)), (4, .int (5 : Int32))]) dX7_drop_51 (by decide) rfl [1, 2, 3, 4, 0] rfl rfl ?_
          refine lm_aload_n C dX7_drop_53 rfl 0 rfl rfl ?_
          refine lm_getf C (T := TX7) (N := 14) (v := .ref (a 1)) in7_X7_drop 0 rfl rfl 0 (by decide) fl7_X7_drop rfl rfl dX7_drop_54 rfl ?_
          refine lm_iload_n C dX7_drop_57 rfl 3 rfl rfl ?_
          refine lm_iconst C (v := (2 : Int32)) dX7_drop_58 (by decide) rfl ?_
          refine lm_iload_n C dX7_drop_59 rfl 2 rfl rfl ?_
          refine lm_imul C dX7_drop_60 rfl rfl ?_
          refine lm_iadd C dX7_drop_61 rfl rfl ?_
          obtain ⟨b28, hF⟩ := lm_gie hF
          refine lm_iald C (v := (σ25 1 (((17 : Int32) + ((2 : Int32) * x2))).toNatClampNeg)) 1 rfl b28 rfl dX7_drop_62 rfl ?_
          obtain ⟨t29, et29, hF⟩ := lm_lte hF
          rw [et29]
          refine lm_istore C (lv' := [(0, .ref (a 0)), (1, .int x1), (2, .int x2), (3, .int (17 : Int32)), (4, .int (5 : Int32)), (5, .int t29)]) dX7_drop_63 (by decide) rfl [1, 2, 3, 4, 5, 0] rfl rfl ?_
          refine lm_aload_n C dX7_drop_65 rfl 0 rfl rfl ?_
          refine lm_getf C (T := TX7) (N := 14) (v := .ref (a 1)) in7_X7_drop 0 rfl rfl 0 (by decide) fl7_X7_drop rfl rfl dX7_drop_66 rfl ?_
          refine lm_iload C dX7_drop_69 4 rfl rfl ?_
          refine lm_dup2 C dX7_drop_71 rfl rfl rfl ?_
          refine lm_iald C (v := (σ25 1 5)) 1 rfl (by unfold vp_in; decide) rfl dX7_drop_72 rfl ?_
          refine lm_iconst C (v := (1 : Int32)) dX7_drop_73 (by decide) rfl ?_
          refine lm_isub C dX7_drop_74 rfl rfl ?_
          obtain ⟨σ30, eσ30, hF⟩ := lm_lte hF
          refine lm_iast C (w' := (mdW z a σ30)) 1 rfl (by unfold vp_in; decide) dX7_drop_75 (by rw [← eσ30]; rfl) rfl ?_
          refine lm_iconst C (v := (2 : Int32)) dX7_drop_76 (by decide) rfl ?_
          refine lm_iload_n C dX7_drop_77 rfl 2 rfl rfl ?_
          refine lm_imul C dX7_drop_78 rfl rfl ?_
          refine lm_istore C (lv' := [(0, .ref (a 0)), (1, .int x1), (2, .int x2), (3, .int (17 : Int32)), (4, .int (5 : Int32)), (5, .int t29), (6, .int ((2 : Int32) * x2))]) dX7_drop_79 (by decide) rfl [1, 2, 3, 4, 5, 6, 0] rfl rfl ?_
          exact loop_81 1000 σ30 x1 x2 (17 : Int32) (5 : Int32) t29 ((2 : Int32) * x2) hF
    · have hF := lm_brf hF c24
      refine lm_goto C (tgt := 23) dX7_drop_12 (by decide) ?_
      refine lm_iconst C (v := (-1 : Int32)) dX7_drop_23 (by decide) rfl ?_
      cases hF
      exact lm_iret C hr hk rfl rfl dX7_drop_24
def F_X7_change (σ : Hp) (x1 x2 x3 : Int32) : Option (Int32 × (Hp)) :=
  lm_bd (F_X7_isInner σ x1) fun r1 =>
  lm_br (r1 = 0)
   (some ((-1 : Int32), σ))
   (lm_bd (F_X7_isRowOf x2 x3) fun r3 =>
   lm_br (¬ r3 = 0)
    (lm_bd (F_X7_changes σ) fun σ5 =>
    lm_bd (F_X7_innerKey σ5 x1) fun r6 =>
    lm_gi ((17 : Int32) + ((2 : Int32) * x1)) 127
    (lm_lt (lm_u σ5 1 ((((17 : Int32) + ((2 : Int32) * x1))).toNatClampNeg) x2) fun σ7 =>
    lm_gi (((17 : Int32) + ((2 : Int32) * x1)) + (1 : Int32)) 127
    (lm_lt (lm_u σ7 1 (((((17 : Int32) + ((2 : Int32) * x1)) + (1 : Int32))).toNatClampNeg) x3) fun σ8 =>
    lm_bd (F_X7_keeps σ8 r6 x2) fun σ9 =>
    lm_bd (F_X7_known σ9) fun r10 =>
    some (r10, σ9))))
    (some ((-1 : Int32), σ)))
theorem in7_X7_change : ∀ w ∈ u_ws RX7 TX7 14, w ∈ wsX7_change := by decide +kernel
theorem fl7_X7_change : Cond.fieldLink RX7 7 "LoopMemoModel" "s" "[I" ∈ wsX7_change := by decide +kernel
set_option maxRecDepth 100000 in
set_option maxHeartbeats 4000000 in
theorem m_X7_change (D : va_G) (z zo : ClassId) (l : Launch) (a : Nat → Nat) (σ : Hp) (x1 x2 x3 : Int32) (r : Int32) (σ' : Hp) (hF : F_X7_change σ x1 x2 x3 = some (r, σ')) : lm_C D z zo l yX7_change wsX7_change 4 88 [.ref (a 0), .int x1, .int x2, .int x3] (mdW z a σ) (some (.int r)) (mdW z a σ') := by
  refine lm_C.of (by decide) rfl (Nat.le_of_ble_eq_true rfl) (own := RX7) rfl ?_
  intro p e s m_ args below meth c C hr hk hA
  show lm_St p l e ({ frames := 4, cells := 0, slots := 0, locals := 88 }) s m_ args below meth c D (va_A (mdW z a σ) s.heap.size) 5 0 0 (lm_End below D (some (.int r)) (mdW z a σ) (mdW z a σ') args s) false (mdW z a σ) 0 [(0, .ref (a 0)), (1, .int x1), (2, .int x2), (3, .int x3)] []
  rw [F_X7_change] at hF
  refine lm_aload_n C dX7_change_0 rfl 0 rfl rfl ?_
  refine lm_iload_n C dX7_change_1 rfl 1 rfl rfl ?_
  obtain ⟨r1, qr1, hF⟩ := lm_bde hF
  refine lm_callVR C (n := 1) (ci := 7) (m_X7_isInner D z zo l a σ x1 r1 qr1) gX7_change_X7_isInner rfl (by decide +kernel) ⟨Nat.le_of_ble_eq_true rfl, Nat.le_of_ble_eq_true rfl⟩ ⟨Nat.le_of_ble_eq_true rfl, Nat.le_of_ble_eq_true rfl⟩ 0 rfl rfl (fun _ h => h) rfl rfl (Nat.le_of_ble_eq_true rfl) dX7_change_2 (st' := [.int r1]) rfl rfl ?_
  refine lm_if_eq C (tgt := 16) dX7_change_5 (by decide) rfl (fun c2 => ?_) (fun c2 => ?_)
  · have hF := lm_brt hF c2
    refine lm_iconst C (v := (-1 : Int32)) dX7_change_16 (by decide) rfl ?_
    cases hF
    exact lm_iret C hr hk rfl rfl dX7_change_17
  · have hF := lm_brf hF c2
    refine lm_iload_n C dX7_change_8 rfl 2 rfl rfl ?_
    refine lm_iload_n C dX7_change_9 rfl 3 rfl rfl ?_
    obtain ⟨r3, qr3, hF⟩ := lm_bde hF
    refine lm_callSR C (n := 2) (m_X7_isRowOf D z zo l   x2 x3 r3 qr3) gX7_change_X7_isRowOf rfl (by decide +kernel) ⟨Nat.le_of_ble_eq_true rfl, Nat.le_of_ble_eq_true rfl⟩ ⟨Nat.le_of_ble_eq_true rfl, Nat.le_of_ble_eq_true rfl⟩ (fun _ h => absurd h List.not_mem_nil) rfl rfl (Nat.le_of_ble_eq_true rfl) dX7_change_10 (st' := [.int r3]) rfl rfl ?_
    refine lm_if_ne C (tgt := 18) dX7_change_13 (by decide) rfl (fun c4 => ?_) (fun c4 => ?_)
    · have hF := lm_brt hF c4
      refine lm_aload_n C dX7_change_18 rfl 0 rfl rfl ?_
      obtain ⟨σ5, qσ5, hF⟩ := lm_bde hF
      refine lm_callV C (n := 0) (ci := 7) (w' := (mdW z a σ5)) hA (m_X7_changes D z zo l a σ  σ5 qσ5) gX7_change_X7_changes rfl (by decide +kernel) ⟨Nat.le_of_ble_eq_true rfl, Nat.le_of_ble_eq_true rfl⟩ ⟨Nat.le_of_ble_eq_true rfl, Nat.le_of_ble_eq_true rfl⟩ 0 rfl rfl lm_pr lm_pr' rfl rfl (Nat.le_of_ble_eq_true rfl) dX7_change_19 (st' := []) rfl rfl ?_
      refine lm_aload_n C dX7_change_22 rfl 0 rfl rfl ?_
      refine lm_iload_n C dX7_change_23 rfl 1 rfl rfl ?_
      obtain ⟨r6, qr6, hF⟩ := lm_bde hF
      refine lm_callVR C (n := 1) (ci := 7) (m_X7_innerKey D z zo l a σ5 x1 r6 qr6) gX7_change_X7_innerKey rfl (by decide +kernel) ⟨Nat.le_of_ble_eq_true rfl, Nat.le_of_ble_eq_true rfl⟩ ⟨Nat.le_of_ble_eq_true rfl, Nat.le_of_ble_eq_true rfl⟩ 0 rfl rfl (fun _ h => h) rfl rfl (Nat.le_of_ble_eq_true rfl) dX7_change_24 (st' := [.int r6]) rfl rfl ?_
      refine lm_istore C (lv' := [(0, .ref (a 0)), (1, .int x1), (2, .int x2), (3, .int x3), (4, .int r6)]) dX7_change_27 (by decide) rfl [1, 2, 3, 4, 0] rfl rfl ?_
      refine lm_aload_n C dX7_change_29 rfl 0 rfl rfl ?_
      refine lm_getf C (T := TX7) (N := 14) (v := .ref (a 1)) in7_X7_change 0 rfl rfl 0 (by decide) fl7_X7_change rfl rfl dX7_change_30 rfl ?_
      refine lm_bipush C (v := (17 : Int32)) dX7_change_33 (by decide) rfl ?_
      refine lm_iconst C (v := (2 : Int32)) dX7_change_35 (by decide) rfl ?_
      refine lm_iload_n C dX7_change_36 rfl 1 rfl rfl ?_
      refine lm_imul C dX7_change_37 rfl rfl ?_
      refine lm_iadd C dX7_change_38 rfl rfl ?_
      refine lm_iload_n C dX7_change_39 rfl 2 rfl rfl ?_
      obtain ⟨b12, hF⟩ := lm_gie hF
      obtain ⟨σ7, eσ7, hF⟩ := lm_lte hF
      refine lm_iast C (w' := (mdW z a σ7)) 1 rfl b12 dX7_change_40 (by rw [← eσ7]; rfl) rfl ?_
      refine lm_aload_n C dX7_change_41 rfl 0 rfl rfl ?_
      refine lm_getf C (T := TX7) (N := 14) (v := .ref (a 1)) in7_X7_change 0 rfl rfl 0 (by decide) fl7_X7_change rfl rfl dX7_change_42 rfl ?_
      refine lm_bipush C (v := (17 : Int32)) dX7_change_45 (by decide) rfl ?_
      refine lm_iconst C (v := (2 : Int32)) dX7_change_47 (by decide) rfl ?_
      refine lm_iload_n C dX7_change_48 rfl 1 rfl rfl ?_
      refine lm_imul C dX7_change_49 rfl rfl ?_
      refine lm_iadd C dX7_change_50 rfl rfl ?_
      refine lm_iconst C (v := (1 : Int32)) dX7_change_51 (by decide) rfl ?_
      refine lm_iadd C dX7_change_52 rfl rfl ?_
      refine lm_iload_n C dX7_change_53 rfl 3 rfl rfl ?_
      obtain ⟨b11, hF⟩ := lm_gie hF
      obtain ⟨σ8, eσ8, hF⟩ := lm_lte hF
      refine lm_iast C (w' := (mdW z a σ8)) 1 rfl b11 dX7_change_54 (by rw [← eσ8]; rfl) rfl ?_
      refine lm_aload_n C dX7_change_55 rfl 0 rfl rfl ?_
      refine lm_iload C dX7_change_56 4 rfl rfl ?_
      refine lm_iload_n C dX7_change_58 rfl 2 rfl rfl ?_
      obtain ⟨σ9, qσ9, hF⟩ := lm_bde hF
      refine lm_callV C (n := 2) (ci := 7) (w' := (mdW z a σ9)) hA (m_X7_keeps D z zo l a σ8 r6 x2 σ9 qσ9) gX7_change_X7_keeps rfl (by decide +kernel) ⟨Nat.le_of_ble_eq_true rfl, Nat.le_of_ble_eq_true rfl⟩ ⟨Nat.le_of_ble_eq_true rfl, Nat.le_of_ble_eq_true rfl⟩ 0 rfl rfl lm_pr lm_pr' rfl rfl (Nat.le_of_ble_eq_true rfl) dX7_change_59 (st' := []) rfl rfl ?_
      refine lm_aload_n C dX7_change_62 rfl 0 rfl rfl ?_
      obtain ⟨r10, qr10, hF⟩ := lm_bde hF
      refine lm_callVR C (n := 0) (ci := 7) (m_X7_known D z zo l a σ9  r10 qr10) gX7_change_X7_known rfl (by decide +kernel) ⟨Nat.le_of_ble_eq_true rfl, Nat.le_of_ble_eq_true rfl⟩ ⟨Nat.le_of_ble_eq_true rfl, Nat.le_of_ble_eq_true rfl⟩ 0 rfl rfl (fun _ h => h) rfl rfl (Nat.le_of_ble_eq_true rfl) dX7_change_63 (st' := [.int r10]) rfl rfl ?_
      cases hF
      exact lm_iret C hr hk rfl rfl dX7_change_66
    · have hF := lm_brf hF c4
      refine lm_iconst C (v := (-1 : Int32)) dX7_change_16 (by decide) rfl ?_
      cases hF
      exact lm_iret C hr hk rfl rfl dX7_change_17
def F_X7_steps_L4 : Nat → Hp → Int32 → Int32 → Int32 → Option (Int32 × (Hp))
  | 0, _, _, _, _ => none
  | n + 1, σx, x1, x2, x3 =>
    lm_br (x1 ≤ x3)
     (lm_lt (lm_u σx 1 11 ((σx 1 11) + x2)) fun σ2 =>
     some (x2, σ2))
     (lm_br ((σx 1 6) ≤ (σx 1 7))
      (lm_lt (lm_u σx 1 11 ((σx 1 11) + x2)) fun σ4 =>
      some (x2, σ4))
      (lm_gi ((57 : Int32) + ((2 : Int32) * (σx 1 7))) 127
      (lm_lt (σx 1 (((57 : Int32) + ((2 : Int32) * (σx 1 7)))).toNatClampNeg) fun t6 =>
      lm_b2 (F_X7_looks σx t6) fun r8 σ7 =>
      lm_gi (((57 : Int32) + ((2 : Int32) * (σ7 1 7))) + (1 : Int32)) 127
      (lm_bd (F_X7_sum σ7 t6) fun r10 =>
      lm_lt (lm_u σ7 1 8 ((σ7 1 8) + ((σ7 1 ((((57 : Int32) + ((2 : Int32) * (σ7 1 7))) + (1 : Int32))).toNatClampNeg) * r10))) fun σ11 =>
      lm_lt (lm_u σ11 1 7 ((σ11 1 7) + (1 : Int32))) fun σ12 =>
      F_X7_steps_L4 n σ12 x1 (x2 + r8) (x3 + (1 : Int32))))))
def F_X7_steps (σ : Hp) (x1 : Int32) : Option (Int32 × (Hp)) :=
  F_X7_steps_L4 1000 σ x1 (0 : Int32) (0 : Int32)
theorem in7_X7_steps : ∀ w ∈ u_ws RX7 TX7 14, w ∈ wsX7_steps := by decide +kernel
theorem fl7_X7_steps : Cond.fieldLink RX7 7 "LoopMemoModel" "s" "[I" ∈ wsX7_steps := by decide +kernel
set_option maxRecDepth 100000 in
set_option maxHeartbeats 4000000 in
theorem m_X7_steps (D : va_G) (z zo : ClassId) (l : Launch) (a : Nat → Nat) (σ : Hp) (x1 : Int32) (r : Int32) (σ' : Hp) (hF : F_X7_steps σ x1 = some (r, σ')) : lm_C D z zo l yX7_steps wsX7_steps 7 154 [.ref (a 0), .int x1] (mdW z a σ) (some (.int r)) (mdW z a σ') := by
  refine lm_C.of (by decide) rfl (Nat.le_of_ble_eq_true rfl) (own := RX7) rfl ?_
  intro p e s m_ args below meth c C hr hk hA
  have loop_4 : ∀ (n : Nat) (σx : Hp) (x1 : Int32) (x2 : Int32) (x3 : Int32), F_X7_steps_L4 n σx x1 x2 x3 = some (r, σ') → lm_St p l e ({ frames := 7, cells := 0, slots := 0, locals := 154 }) s m_ args below meth c D (va_A (mdW z a σ) s.heap.size) 5 0 0 (lm_End below D (some (.int r)) (mdW z a σ) (mdW z a σ') args s) false (mdW z a σx) 4 [(0, .ref (a 0)), (1, .int x1), (2, .int x2), (3, .int x3)] [] := by
    intro n
    induction n with
    | zero => intro σx x1 x2 x3 hF; cases (show (none : Option _) = some _ from hF)
    | succ n ih =>
      intro σx x1 x2 x3 hF
      rw [F_X7_steps_L4] at hF
      refine lm_iload_n C dX7_steps_4 rfl 3 rfl rfl ?_
      refine lm_iload_n C dX7_steps_5 rfl 1 rfl rfl ?_
      refine lm_icmp_ge C (tgt := 107) dX7_steps_6 (by decide) rfl (fun c1 => ?_) (fun c1 => ?_)
      · have hF := lm_brt hF c1
        refine lm_aload_n C dX7_steps_107 rfl 0 rfl rfl ?_
        refine lm_getf C (T := TX7) (N := 14) (v := .ref (a 1)) in7_X7_steps 0 rfl rfl 0 (by decide) fl7_X7_steps rfl rfl dX7_steps_108 rfl ?_
        refine lm_bipush C (v := (11 : Int32)) dX7_steps_111 (by decide) rfl ?_
        refine lm_dup2 C dX7_steps_113 rfl rfl rfl ?_
        refine lm_iald C (v := (σx 1 11)) 1 rfl (by unfold vp_in; decide) rfl dX7_steps_114 rfl ?_
        refine lm_iload_n C dX7_steps_115 rfl 2 rfl rfl ?_
        refine lm_iadd C dX7_steps_116 rfl rfl ?_
        obtain ⟨σ2, eσ2, hF⟩ := lm_lte hF
        refine lm_iast C (w' := (mdW z a σ2)) 1 rfl (by unfold vp_in; decide) dX7_steps_117 (by rw [← eσ2]; rfl) rfl ?_
        refine lm_iload_n C dX7_steps_118 rfl 2 rfl rfl ?_
        cases hF
        exact lm_iret C hr hk rfl rfl dX7_steps_119
      · have hF := lm_brf hF c1
        refine lm_aload_n C dX7_steps_9 rfl 0 rfl rfl ?_
        refine lm_getf C (T := TX7) (N := 14) (v := .ref (a 1)) in7_X7_steps 0 rfl rfl 0 (by decide) fl7_X7_steps rfl rfl dX7_steps_10 rfl ?_
        refine lm_bipush C (v := (7 : Int32)) dX7_steps_13 (by decide) rfl ?_
        refine lm_iald C (v := (σx 1 7)) 1 rfl (by unfold vp_in; decide) rfl dX7_steps_15 rfl ?_
        refine lm_aload_n C dX7_steps_16 rfl 0 rfl rfl ?_
        refine lm_getf C (T := TX7) (N := 14) (v := .ref (a 1)) in7_X7_steps 0 rfl rfl 0 (by decide) fl7_X7_steps rfl rfl dX7_steps_17 rfl ?_
        refine lm_bipush C (v := (6 : Int32)) dX7_steps_20 (by decide) rfl ?_
        refine lm_iald C (v := (σx 1 6)) 1 rfl (by unfold vp_in; decide) rfl dX7_steps_22 rfl ?_
        refine lm_icmp_ge C (tgt := 107) dX7_steps_23 (by decide) rfl (fun c3 => ?_) (fun c3 => ?_)
        · have hF := lm_brt hF c3
          refine lm_aload_n C dX7_steps_107 rfl 0 rfl rfl ?_
          refine lm_getf C (T := TX7) (N := 14) (v := .ref (a 1)) in7_X7_steps 0 rfl rfl 0 (by decide) fl7_X7_steps rfl rfl dX7_steps_108 rfl ?_
          refine lm_bipush C (v := (11 : Int32)) dX7_steps_111 (by decide) rfl ?_
          refine lm_dup2 C dX7_steps_113 rfl rfl rfl ?_
          refine lm_iald C (v := (σx 1 11)) 1 rfl (by unfold vp_in; decide) rfl dX7_steps_114 rfl ?_
          refine lm_iload_n C dX7_steps_115 rfl 2 rfl rfl ?_
          refine lm_iadd C dX7_steps_116 rfl rfl ?_
          obtain ⟨σ4, eσ4, hF⟩ := lm_lte hF
          refine lm_iast C (w' := (mdW z a σ4)) 1 rfl (by unfold vp_in; decide) dX7_steps_117 (by rw [← eσ4]; rfl) rfl ?_
          refine lm_iload_n C dX7_steps_118 rfl 2 rfl rfl ?_
          cases hF
          exact lm_iret C hr hk rfl rfl dX7_steps_119
        · have hF := lm_brf hF c3
          refine lm_aload_n C dX7_steps_26 rfl 0 rfl rfl ?_
          refine lm_getf C (T := TX7) (N := 14) (v := .ref (a 1)) in7_X7_steps 0 rfl rfl 0 (by decide) fl7_X7_steps rfl rfl dX7_steps_27 rfl ?_
          refine lm_bipush C (v := (57 : Int32)) dX7_steps_30 (by decide) rfl ?_
          refine lm_iconst C (v := (2 : Int32)) dX7_steps_32 (by decide) rfl ?_
          refine lm_aload_n C dX7_steps_33 rfl 0 rfl rfl ?_
          refine lm_getf C (T := TX7) (N := 14) (v := .ref (a 1)) in7_X7_steps 0 rfl rfl 0 (by decide) fl7_X7_steps rfl rfl dX7_steps_34 rfl ?_
          refine lm_bipush C (v := (7 : Int32)) dX7_steps_37 (by decide) rfl ?_
          refine lm_iald C (v := (σx 1 7)) 1 rfl (by unfold vp_in; decide) rfl dX7_steps_39 rfl ?_
          refine lm_imul C dX7_steps_40 rfl rfl ?_
          refine lm_iadd C dX7_steps_41 rfl rfl ?_
          obtain ⟨b5, hF⟩ := lm_gie hF
          refine lm_iald C (v := (σx 1 (((57 : Int32) + ((2 : Int32) * (σx 1 7)))).toNatClampNeg)) 1 rfl b5 rfl dX7_steps_42 rfl ?_
          obtain ⟨t6, et6, hF⟩ := lm_lte hF
          rw [et6]
          refine lm_istore C (lv' := [(0, .ref (a 0)), (1, .int x1), (2, .int x2), (3, .int x3), (4, .int t6)]) dX7_steps_43 (by decide) rfl [1, 2, 3, 4, 0] rfl rfl ?_
          refine lm_iload_n C dX7_steps_45 rfl 2 rfl rfl ?_
          refine lm_aload_n C dX7_steps_46 rfl 0 rfl rfl ?_
          refine lm_iload C dX7_steps_47 4 rfl rfl ?_
          obtain ⟨r8, σ7, qσ7, hF⟩ := lm_b2e hF
          refine lm_callV C (n := 1) (ci := 7) (w' := (mdW z a σ7)) hA (m_X7_looks D z zo l a σx t6 r8 σ7 qσ7) gX7_steps_X7_looks rfl (by decide +kernel) ⟨Nat.le_of_ble_eq_true rfl, Nat.le_of_ble_eq_true rfl⟩ ⟨Nat.le_of_ble_eq_true rfl, Nat.le_of_ble_eq_true rfl⟩ 0 rfl rfl lm_pr lm_pr' rfl rfl (Nat.le_of_ble_eq_true rfl) dX7_steps_49 (st' := [.int r8, .int x2]) rfl rfl ?_
          refine lm_iadd C dX7_steps_52 rfl rfl ?_
          refine lm_istore_n C (lv' := [(0, .ref (a 0)), (1, .int x1), (2, .int (x2 + r8)), (3, .int x3), (4, .int t6)]) dX7_steps_53 rfl (by decide) rfl [1, 2, 0, 3, 4] rfl rfl ?_
          refine lm_aload_n C dX7_steps_54 rfl 0 rfl rfl ?_
          refine lm_getf C (T := TX7) (N := 14) (v := .ref (a 1)) in7_X7_steps 0 rfl rfl 0 (by decide) fl7_X7_steps rfl rfl dX7_steps_55 rfl ?_
          refine lm_bipush C (v := (8 : Int32)) dX7_steps_58 (by decide) rfl ?_
          refine lm_dup2 C dX7_steps_60 rfl rfl rfl ?_
          refine lm_iald C (v := (σ7 1 8)) 1 rfl (by unfold vp_in; decide) rfl dX7_steps_61 rfl ?_
          refine lm_aload_n C dX7_steps_62 rfl 0 rfl rfl ?_
          refine lm_getf C (T := TX7) (N := 14) (v := .ref (a 1)) in7_X7_steps 0 rfl rfl 0 (by decide) fl7_X7_steps rfl rfl dX7_steps_63 rfl ?_
          refine lm_bipush C (v := (57 : Int32)) dX7_steps_66 (by decide) rfl ?_
          refine lm_iconst C (v := (2 : Int32)) dX7_steps_68 (by decide) rfl ?_
          refine lm_aload_n C dX7_steps_69 rfl 0 rfl rfl ?_
          refine lm_getf C (T := TX7) (N := 14) (v := .ref (a 1)) in7_X7_steps 0 rfl rfl 0 (by decide) fl7_X7_steps rfl rfl dX7_steps_70 rfl ?_
          refine lm_bipush C (v := (7 : Int32)) dX7_steps_73 (by decide) rfl ?_
          refine lm_iald C (v := (σ7 1 7)) 1 rfl (by unfold vp_in; decide) rfl dX7_steps_75 rfl ?_
          refine lm_imul C dX7_steps_76 rfl rfl ?_
          refine lm_iadd C dX7_steps_77 rfl rfl ?_
          refine lm_iconst C (v := (1 : Int32)) dX7_steps_78 (by decide) rfl ?_
          refine lm_iadd C dX7_steps_79 rfl rfl ?_
          obtain ⟨b9, hF⟩ := lm_gie hF
          refine lm_iald C (v := (σ7 1 ((((57 : Int32) + ((2 : Int32) * (σ7 1 7))) + (1 : Int32))).toNatClampNeg)) 1 rfl b9 rfl dX7_steps_80 rfl ?_
          refine lm_aload_n C dX7_steps_81 rfl 0 rfl rfl ?_
          refine lm_iload C dX7_steps_82 4 rfl rfl ?_
          obtain ⟨r10, qr10, hF⟩ := lm_bde hF
          refine lm_callVR C (n := 1) (ci := 7) (m_X7_sum D z zo l a σ7 t6 r10 qr10) gX7_steps_X7_sum rfl (by decide +kernel) ⟨Nat.le_of_ble_eq_true rfl, Nat.le_of_ble_eq_true rfl⟩ ⟨Nat.le_of_ble_eq_true rfl, Nat.le_of_ble_eq_true rfl⟩ 0 rfl rfl (fun _ h => h) rfl rfl (Nat.le_of_ble_eq_true rfl) dX7_steps_84 (st' := [.int r10, .int (σ7 1 ((((57 : Int32) + ((2 : Int32) * (σ7 1 7))) + (1 : Int32))).toNatClampNeg), .int (σ7 1 8), .int (8 : Int32), .ref (a 1)]) rfl rfl ?_
          refine lm_imul C dX7_steps_87 rfl rfl ?_
          refine lm_iadd C dX7_steps_88 rfl rfl ?_
          obtain ⟨σ11, eσ11, hF⟩ := lm_lte hF
          refine lm_iast C (w' := (mdW z a σ11)) 1 rfl (by unfold vp_in; decide) dX7_steps_89 (by rw [← eσ11]; rfl) rfl ?_
          refine lm_aload_n C dX7_steps_90 rfl 0 rfl rfl ?_
          refine lm_getf C (T := TX7) (N := 14) (v := .ref (a 1)) in7_X7_steps 0 rfl rfl 0 (by decide) fl7_X7_steps rfl rfl dX7_steps_91 rfl ?_
          refine lm_bipush C (v := (7 : Int32)) dX7_steps_94 (by decide) rfl ?_
          refine lm_dup2 C dX7_steps_96 rfl rfl rfl ?_
          refine lm_iald C (v := (σ11 1 7)) 1 rfl (by unfold vp_in; decide) rfl dX7_steps_97 rfl ?_
          refine lm_iconst C (v := (1 : Int32)) dX7_steps_98 (by decide) rfl ?_
          refine lm_iadd C dX7_steps_99 rfl rfl ?_
          obtain ⟨σ12, eσ12, hF⟩ := lm_lte hF
          refine lm_iast C (w' := (mdW z a σ12)) 1 rfl (by unfold vp_in; decide) dX7_steps_100 (by rw [← eσ12]; rfl) rfl ?_
          refine lm_iinc C (lv' := [(0, .ref (a 0)), (1, .int x1), (2, .int (x2 + r8)), (3, .int (x3 + (1 : Int32))), (4, .int t6)]) (x3 + (1 : Int32)) dX7_steps_101 3 rfl rfl (by decide) rfl [1, 2, 3, 0, 4] rfl rfl ?_
          refine lm_goto C (tgt := 4) dX7_steps_104 (by decide) ?_
          refine lm_lvsub (lv' := [(0, .ref (a 0)), (1, .int x1), (2, .int (x2 + r8)), (3, .int (x3 + (1 : Int32)))]) [0, 1, 2, 3] rfl ?_
          exact ih σ12 x1 (x2 + r8) (x3 + (1 : Int32)) hF
  show lm_St p l e ({ frames := 7, cells := 0, slots := 0, locals := 154 }) s m_ args below meth c D (va_A (mdW z a σ) s.heap.size) 5 0 0 (lm_End below D (some (.int r)) (mdW z a σ) (mdW z a σ') args s) false (mdW z a σ) 0 [(0, .ref (a 0)), (1, .int x1)] []
  rw [F_X7_steps] at hF
  refine lm_iconst C (v := (0 : Int32)) dX7_steps_0 (by decide) rfl ?_
  refine lm_istore_n C (lv' := [(0, .ref (a 0)), (1, .int x1), (2, .int (0 : Int32))]) dX7_steps_1 rfl (by decide) rfl [1, 2, 0] rfl rfl ?_
  refine lm_iconst C (v := (0 : Int32)) dX7_steps_2 (by decide) rfl ?_
  refine lm_istore_n C (lv' := [(0, .ref (a 0)), (1, .int x1), (2, .int (0 : Int32)), (3, .int (0 : Int32))]) dX7_steps_3 rfl (by decide) rfl [1, 2, 3, 0] rfl rfl ?_
  exact loop_4 1000 σ x1 (0 : Int32) (0 : Int32) hF
def F_X7_step (σ : Hp) (x1 : Int32) : Option (Int32 × (Hp)) :=
  lm_bd (F_X7_in x1 (1 : Int32) (20 : Int32)) fun r1 =>
  lm_br (¬ r1 = 0)
   (lm_br (¬ (σ 1 7) = (σ 1 6))
    (lm_bd (F_X7_changes σ) fun σ4 =>
    lm_b2 (F_X7_steps σ4 x1) fun r6 σ5 =>
    some (r6, σ5))
    (some ((-2 : Int32), σ)))
   (some ((-1 : Int32), σ))
theorem in7_X7_step : ∀ w ∈ u_ws RX7 TX7 14, w ∈ wsX7_step := by decide +kernel
theorem fl7_X7_step : Cond.fieldLink RX7 7 "LoopMemoModel" "s" "[I" ∈ wsX7_step := by decide +kernel
set_option maxRecDepth 100000 in
set_option maxHeartbeats 4000000 in
theorem m_X7_step (D : va_G) (z zo : ClassId) (l : Launch) (a : Nat → Nat) (σ : Hp) (x1 : Int32) (r : Int32) (σ' : Hp) (hF : F_X7_step σ x1 = some (r, σ')) : lm_C D z zo l yX7_step wsX7_step 8 178 [.ref (a 0), .int x1] (mdW z a σ) (some (.int r)) (mdW z a σ') := by
  refine lm_C.of (by decide) rfl (Nat.le_of_ble_eq_true rfl) (own := RX7) rfl ?_
  intro p e s m_ args below meth c C hr hk hA
  show lm_St p l e ({ frames := 8, cells := 0, slots := 0, locals := 178 }) s m_ args below meth c D (va_A (mdW z a σ) s.heap.size) 2 0 0 (lm_End below D (some (.int r)) (mdW z a σ) (mdW z a σ') args s) false (mdW z a σ) 0 [(0, .ref (a 0)), (1, .int x1)] []
  rw [F_X7_step] at hF
  refine lm_iload_n C dX7_step_0 rfl 1 rfl rfl ?_
  refine lm_iconst C (v := (1 : Int32)) dX7_step_1 (by decide) rfl ?_
  refine lm_bipush C (v := (20 : Int32)) dX7_step_2 (by decide) rfl ?_
  obtain ⟨r1, qr1, hF⟩ := lm_bde hF
  refine lm_callSR C (n := 3) (m_X7_in D z zo l   x1 (1 : Int32) (20 : Int32) r1 qr1) gX7_step_X7_in rfl (by decide +kernel) ⟨Nat.le_of_ble_eq_true rfl, Nat.le_of_ble_eq_true rfl⟩ ⟨Nat.le_of_ble_eq_true rfl, Nat.le_of_ble_eq_true rfl⟩ (fun _ h => absurd h List.not_mem_nil) rfl rfl (Nat.le_of_ble_eq_true rfl) dX7_step_4 (st' := [.int r1]) rfl rfl ?_
  refine lm_if_ne C (tgt := 12) dX7_step_7 (by decide) rfl (fun c2 => ?_) (fun c2 => ?_)
  · have hF := lm_brt hF c2
    refine lm_aload_n C dX7_step_12 rfl 0 rfl rfl ?_
    refine lm_getf C (T := TX7) (N := 14) (v := .ref (a 1)) in7_X7_step 0 rfl rfl 0 (by decide) fl7_X7_step rfl rfl dX7_step_13 rfl ?_
    refine lm_bipush C (v := (7 : Int32)) dX7_step_16 (by decide) rfl ?_
    refine lm_iald C (v := (σ 1 7)) 1 rfl (by unfold vp_in; decide) rfl dX7_step_18 rfl ?_
    refine lm_aload_n C dX7_step_19 rfl 0 rfl rfl ?_
    refine lm_getf C (T := TX7) (N := 14) (v := .ref (a 1)) in7_X7_step 0 rfl rfl 0 (by decide) fl7_X7_step rfl rfl dX7_step_20 rfl ?_
    refine lm_bipush C (v := (6 : Int32)) dX7_step_23 (by decide) rfl ?_
    refine lm_iald C (v := (σ 1 6)) 1 rfl (by unfold vp_in; decide) rfl dX7_step_25 rfl ?_
    refine lm_icmp_ne C (tgt := 32) dX7_step_26 (by decide) rfl (fun c3 => ?_) (fun c3 => ?_)
    · have hF := lm_brt hF c3
      refine lm_aload_n C dX7_step_32 rfl 0 rfl rfl ?_
      obtain ⟨σ4, qσ4, hF⟩ := lm_bde hF
      refine lm_callV C (n := 0) (ci := 7) (w' := (mdW z a σ4)) hA (m_X7_changes D z zo l a σ  σ4 qσ4) gX7_step_X7_changes rfl (by decide +kernel) ⟨Nat.le_of_ble_eq_true rfl, Nat.le_of_ble_eq_true rfl⟩ ⟨Nat.le_of_ble_eq_true rfl, Nat.le_of_ble_eq_true rfl⟩ 0 rfl rfl lm_pr lm_pr' rfl rfl (Nat.le_of_ble_eq_true rfl) dX7_step_33 (st' := []) rfl rfl ?_
      refine lm_aload_n C dX7_step_36 rfl 0 rfl rfl ?_
      refine lm_iload_n C dX7_step_37 rfl 1 rfl rfl ?_
      obtain ⟨r6, σ5, qσ5, hF⟩ := lm_b2e hF
      refine lm_callV C (n := 1) (ci := 7) (w' := (mdW z a σ5)) hA (m_X7_steps D z zo l a σ4 x1 r6 σ5 qσ5) gX7_step_X7_steps rfl (by decide +kernel) ⟨Nat.le_of_ble_eq_true rfl, Nat.le_of_ble_eq_true rfl⟩ ⟨Nat.le_of_ble_eq_true rfl, Nat.le_of_ble_eq_true rfl⟩ 0 rfl rfl lm_pr lm_pr' rfl rfl (Nat.le_of_ble_eq_true rfl) dX7_step_38 (st' := [.int r6]) rfl rfl ?_
      cases hF
      exact lm_iret C hr hk rfl rfl dX7_step_41
    · have hF := lm_brf hF c3
      refine lm_bipush C (v := (-2 : Int32)) dX7_step_29 (by decide) rfl ?_
      cases hF
      exact lm_iret C hr hk rfl rfl dX7_step_31
  · have hF := lm_brf hF c2
    refine lm_iconst C (v := (-1 : Int32)) dX7_step_10 (by decide) rfl ?_
    cases hF
    exact lm_iret C hr hk rfl rfl dX7_step_11
