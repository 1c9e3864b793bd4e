def F_X0_copyFrom (σ : Hp) (ρ : Hp)  : Option (Hp) :=
  lm_lt (lm_ua σ 1 (va_cpy (ρ 1) (σ 1) 0 0 10)) fun σ1 =>
  lm_lt (lm_ua σ1 2 (va_cpy (ρ 2) (σ1 2) 0 0 10)) fun σ2 =>
  lm_lt (lm_ua σ2 3 (va_cpy (ρ 3) (σ2 3) 0 0 10)) fun σ3 =>
  some σ3
theorem in0_X0_copyFrom : ∀ w ∈ u_ws RX0 TX0 3, w ∈ wsX0_copyFrom := by decide +kernel
theorem fl9_X0_copyFrom : Cond.fieldLink RX0 9 "LoopMemo$Answers" "rows" "[I" ∈ wsX0_copyFrom := by decide +kernel
theorem fl15_X0_copyFrom : Cond.fieldLink RX0 15 "LoopMemo$Answers" "sums" "[I" ∈ wsX0_copyFrom := by decide +kernel
theorem fl18_X0_copyFrom : Cond.fieldLink RX0 18 "LoopMemo$Answers" "firstRows" "[I" ∈ wsX0_copyFrom := by decide +kernel
theorem ini_X6_copyNumbers_X0_copyFrom : Cond.initialized yX6_copyNumbers.cls ∈ wsX0_copyFrom := by decide +kernel
theorem sta_X6_copyNumbers_X0_copyFrom : Cond.static yX6_copyNumbers ∈ wsX0_copyFrom := by decide +kernel
set_option maxRecDepth 100000 in
set_option maxHeartbeats 4000000 in
theorem m_X0_copyFrom (D : va_G) (z zo : ClassId) (l : Launch) (a : Nat → Nat) (b : Nat → Nat) (σ : Hp) (ρ : Hp)   (σ' : Hp) (hF : F_X0_copyFrom σ ρ  = some σ') : lm_C D z zo l yX0_copyFrom wsX0_copyFrom 2 61 [.ref (a 0), .ref (b 0)] (anW z a σ ++ anW z b ρ) none (anW z a σ' ++ anW z b ρ) := by
  refine lm_C.of (by decide) rfl (Nat.le_of_ble_eq_true rfl) (own := RX0) rfl ?_
  intro p e s m_ args below meth c C hr hk hA
  show lm_St p l e ({ frames := 2, cells := 0, slots := 0, locals := 61 }) s m_ args below meth c D (va_A (anW z a σ ++ anW z b ρ) s.heap.size) 2 0 0 (lm_End below D none (anW z a σ ++ anW z b ρ) (anW z a σ' ++ anW z b ρ) args s) false (anW z a σ ++ anW z b ρ) 0 [(0, .ref (a 0)), (1, .ref (b 0))] []
  rw [F_X0_copyFrom] at hF
  refine lm_aload_n C dX0_copyFrom_0 rfl 1 rfl rfl ?_
  refine lm_getf C (T := TX0) (N := 3) (v := .ref (b 1)) in0_X0_copyFrom 4 rfl rfl 0 (by decide) fl9_X0_copyFrom rfl rfl dX0_copyFrom_1 rfl ?_
  refine lm_aload_n C dX0_copyFrom_4 rfl 0 rfl rfl ?_
  refine lm_getf C (T := TX0) (N := 3) (v := .ref (a 1)) in0_X0_copyFrom 0 rfl rfl 0 (by decide) fl9_X0_copyFrom rfl rfl dX0_copyFrom_5 rfl ?_
  obtain ⟨σ1, eσ1, hF⟩ := lm_lte hF
  refine lm_callSN C (n := 2) (w' := (anW z a σ1 ++ anW z b ρ)) (wr := ((anW z a σ ++ anW z b ρ).eraseIdx 5).eraseIdx 1) hA (m_X6_copyNumbers D z zo l (b 1) (a 1) 10 (ρ 1) (σ 1) (by decide)) gX0_copyFrom_X6_copyNumbers_n21 rfl ini_X6_copyNumbers_X0_copyFrom sta_X6_copyNumbers_X0_copyFrom (by decide +kernel) ⟨Nat.le_of_ble_eq_true rfl, Nat.le_of_ble_eq_true rfl⟩ ⟨Nat.le_of_ble_eq_true rfl, Nat.le_of_ble_eq_true rfl⟩ (by decide +kernel) (lm_pick2 (anW z a σ ++ anW z b ρ) 5 1 _ _ rfl rfl) (by rw [← eσ1]; exact lm_pick2' 5 1 rfl rfl rfl) rfl rfl (Nat.le_of_ble_eq_true rfl) dX0_copyFrom_8 (st' := []) rfl rfl ?_
  refine lm_aload_n C dX0_copyFrom_11 rfl 1 rfl rfl ?_
  refine lm_getf C (T := TX0) (N := 3) (v := .ref (b 2)) in0_X0_copyFrom 4 rfl rfl 1 (by decide) fl15_X0_copyFrom rfl rfl dX0_copyFrom_12 rfl ?_
  refine lm_aload_n C dX0_copyFrom_15 rfl 0 rfl rfl ?_
  refine lm_getf C (T := TX0) (N := 3) (v := .ref (a 2)) in0_X0_copyFrom 0 rfl rfl 1 (by decide) fl15_X0_copyFrom rfl rfl dX0_copyFrom_16 rfl ?_
  obtain ⟨σ2, eσ2, hF⟩ := lm_lte hF
  refine lm_callSN C (n := 2) (w' := (anW z a σ2 ++ anW z b ρ)) (wr := ((anW z a σ1 ++ anW z b ρ).eraseIdx 6).eraseIdx 2) hA (m_X6_copyNumbers D z zo l (b 2) (a 2) 10 (ρ 2) (σ1 2) (by decide)) gX0_copyFrom_X6_copyNumbers_n21 rfl ini_X6_copyNumbers_X0_copyFrom sta_X6_copyNumbers_X0_copyFrom (by decide +kernel) ⟨Nat.le_of_ble_eq_true rfl, Nat.le_of_ble_eq_true rfl⟩ ⟨Nat.le_of_ble_eq_true rfl, Nat.le_of_ble_eq_true rfl⟩ (by decide +kernel) (lm_pick2 (anW z a σ1 ++ anW z b ρ) 6 2 _ _ rfl rfl) (by rw [← eσ2]; exact lm_pick2' 6 2 rfl rfl rfl) rfl rfl (Nat.le_of_ble_eq_true rfl) dX0_copyFrom_19 (st' := []) rfl rfl ?_
  refine lm_aload_n C dX0_copyFrom_22 rfl 1 rfl rfl ?_
  refine lm_getf C (T := TX0) (N := 3) (v := .ref (b 3)) in0_X0_copyFrom 4 rfl rfl 2 (by decide) fl18_X0_copyFrom rfl rfl dX0_copyFrom_23 rfl ?_
  refine lm_aload_n C dX0_copyFrom_26 rfl 0 rfl rfl ?_
  refine lm_getf C (T := TX0) (N := 3) (v := .ref (a 3)) in0_X0_copyFrom 0 rfl rfl 2 (by decide) fl18_X0_copyFrom rfl rfl dX0_copyFrom_27 rfl ?_
  obtain ⟨σ3, eσ3, hF⟩ := lm_lte hF
  refine lm_callSN C (n := 2) (w' := (anW z a σ3 ++ anW z b ρ)) (wr := ((anW z a σ2 ++ anW z b ρ).eraseIdx 7).eraseIdx 3) hA (m_X6_copyNumbers D z zo l (b 3) (a 3) 10 (ρ 3) (σ2 3) (by decide)) gX0_copyFrom_X6_copyNumbers_n21 rfl ini_X6_copyNumbers_X0_copyFrom sta_X6_copyNumbers_X0_copyFrom (by decide +kernel) ⟨Nat.le_of_ble_eq_true rfl, Nat.le_of_ble_eq_true rfl⟩ ⟨Nat.le_of_ble_eq_true rfl, Nat.le_of_ble_eq_true rfl⟩ (by decide +kernel) (lm_pick2 (anW z a σ2 ++ anW z b ρ) 7 3 _ _ rfl rfl) (by rw [← eσ3]; exact lm_pick2' 7 3 rfl rfl rfl) rfl rfl (Nat.le_of_ble_eq_true rfl) dX0_copyFrom_30 (st' := []) rfl rfl ?_
  cases hF
  exact lm_vret C hr hk rfl rfl dX0_copyFrom_33
def F_X0_find_L40 : Nat → Hp → Hp → Int32 → Int32 → Int32 → Option (Hp)
  | 0, _, _, _, _, _ => none
  | n + 1, σx, ρ, x2, x3, x4 =>
    lm_br (x4 < 0)
     (some σx)
     (lm_bd (F_X5_value ρ x4) fun r4 =>
     lm_bd (F_X5_key ρ x4) fun r5 =>
     lm_br (r5 < 0)
      (F_X0_find_L40 n σx ρ x2 x3 (x4 + (-1 : Int32)))
      (lm_br ((10 : Int32) ≤ r5)
       (F_X0_find_L40 n σx ρ x2 x3 (x4 + (-1 : Int32)))
       (lm_br (r4 < x2)
        (F_X0_find_L40 n σx ρ x2 x3 (x4 + (-1 : Int32)))
        (lm_br (x3 < r4)
         (F_X0_find_L40 n σx ρ x2 x3 (x4 + (-1 : Int32)))
         (lm_gi r5 10
         (lm_gi r5 10
         (lm_lt (lm_u σx 1 (r5.toNatClampNeg) ((σx 1 r5.toNatClampNeg) + (1 : Int32))) fun σ11 =>
         lm_gi r5 10
         (lm_gi r5 10
         (lm_lt (lm_u σ11 2 (r5.toNatClampNeg) ((σ11 2 r5.toNatClampNeg) + r4)) fun σ13 =>
         lm_gi r5 10
         (lm_lt (lm_u σ13 3 (r5.toNatClampNeg) x4) fun σ14 =>
         F_X0_find_L40 n σ14 ρ x2 x3 (x4 + (-1 : Int32))))))))))))
def F_X0_find_L3 : Nat → Hp → Hp → Int32 → Int32 → Int32 → Option (Hp)
  | 0, _, _, _, _, _ => none
  | n + 1, σx, ρ, x2, x3, x4 =>
    lm_br ((10 : Int32) ≤ x4)
     (lm_bd (F_X5_size ρ) fun r2 =>
     F_X0_find_L40 1000 σx ρ x2 x3 (r2 - (1 : Int32)))
     (lm_gi x4 10
     (lm_lt (lm_u σx 1 (x4.toNatClampNeg) (0 : Int32)) fun σ18 =>
     lm_gi x4 10
     (lm_lt (lm_u σ18 2 (x4.toNatClampNeg) (0 : Int32)) fun σ19 =>
     F_X0_find_L3 n σ19 ρ x2 x3 (x4 + (1 : Int32)))))
def F_X0_find (σ : Hp) (ρ : Hp) (x2 x3 : Int32) : Option (Hp) :=
  F_X0_find_L3 1000 σ ρ x2 x3 (0 : Int32)
theorem in0_X0_find : ∀ w ∈ u_ws RX0 TX0 3, w ∈ wsX0_find := by decide +kernel
theorem fl9_X0_find : Cond.fieldLink RX0 9 "LoopMemo$Answers" "rows" "[I" ∈ wsX0_find := by decide +kernel
theorem fl15_X0_find : Cond.fieldLink RX0 15 "LoopMemo$Answers" "sums" "[I" ∈ wsX0_find := by decide +kernel
theorem fl18_X0_find : Cond.fieldLink RX0 18 "LoopMemo$Answers" "firstRows" "[I" ∈ wsX0_find := by decide +kernel
set_option maxRecDepth 100000 in
set_option maxHeartbeats 4000000 in
theorem m_X0_find (D : va_G) (z zo : ClassId) (l : Launch) (a : Nat → Nat) (b : Nat → Nat) (σ : Hp) (ρ : Hp) (x2 x3 : Int32)  (σ' : Hp) (hF : F_X0_find σ ρ x2 x3 = some σ') : lm_C D z zo l yX0_find wsX0_find 1 21 [.ref (a 0), .ref (b 0), .int x2, .int x3] (anW z a σ ++ tbW z b ρ) none (anW z a σ' ++ tbW z b ρ) := by
  refine lm_C.of (by decide) rfl (Nat.le_of_ble_eq_true rfl) (own := RX0) rfl ?_
  intro p e s m_ args below meth c C hr hk hA
  have loop_40 : ∀ (n : Nat) (σx : Hp) (x2 : Int32) (x3 : Int32) (x4 : Int32), F_X0_find_L40 n σx ρ x2 x3 x4 = some σ' → lm_St p l e ({ frames := 1, cells := 0, slots := 0, locals := 21 }) s m_ args below meth c D (va_A (anW z a σ ++ tbW z b ρ) s.heap.size) 7 0 0 (lm_End below D none (anW z a σ ++ tbW z b ρ) (anW z a σ' ++ tbW z b ρ) args s) false (anW z a σx ++ tbW z b ρ) 40 [(0, .ref (a 0)), (1, .ref (b 0)), (2, .int x2), (3, .int x3), (4, .int x4)] [] := by
    intro n
    induction n with
    | zero => intro σx x2 x3 x4 hF; cases (show (none : Option _) = some _ from hF)
    | succ n ih =>
      intro σx x2 x3 x4 hF
      rw [F_X0_find_L40] at hF
      refine lm_iload C dX0_find_40 4 rfl rfl ?_
      refine lm_if_lt C (tgt := 123) dX0_find_42 (by decide) rfl (fun c3 => ?_) (fun c3 => ?_)
      · have hF := lm_brt hF c3
        cases hF
        exact lm_vret C hr hk rfl rfl dX0_find_123
      · have hF := lm_brf hF c3
        refine lm_aload_n C dX0_find_45 rfl 1 rfl rfl ?_
        refine lm_iload C dX0_find_46 4 rfl rfl ?_
        obtain ⟨r4, qr4, hF⟩ := lm_bde hF
        refine lm_callVR C (n := 1) (ci := 5) (m_X5_value D z zo l b ρ x4 r4 qr4) gX0_find_X5_value rfl (by decide +kernel) ⟨Nat.le_of_ble_eq_true rfl, Nat.le_of_ble_eq_true rfl⟩ ⟨Nat.le_of_ble_eq_true rfl, Nat.le_of_ble_eq_true rfl⟩ 4 rfl rfl (fun _ h => List.mem_append_right _ h) rfl rfl (Nat.le_of_ble_eq_true rfl) dX0_find_48 (st' := [.int r4]) rfl rfl ?_
        refine lm_istore C (lv' := [(0, .ref (a 0)), (1, .ref (b 0)), (2, .int x2), (3, .int x3), (4, .int x4), (5, .int r4)]) dX0_find_51 (by decide) rfl [1, 2, 3, 4, 5, 0] rfl rfl ?_
        refine lm_aload_n C dX0_find_53 rfl 1 rfl rfl ?_
        refine lm_iload C dX0_find_54 4 rfl rfl ?_
        obtain ⟨r5, qr5, hF⟩ := lm_bde hF
        refine lm_callVR C (n := 1) (ci := 5) (m_X5_key D z zo l b ρ x4 r5 qr5) gX0_find_X5_key rfl (by decide +kernel) ⟨Nat.le_of_ble_eq_true rfl, Nat.le_of_ble_eq_true rfl⟩ ⟨Nat.le_of_ble_eq_true rfl, Nat.le_of_ble_eq_true rfl⟩ 4 rfl rfl (fun _ h => List.mem_append_right _ h) rfl rfl (Nat.le_of_ble_eq_true rfl) dX0_find_56 (st' := [.int r5]) rfl rfl ?_
        refine lm_istore C (lv' := [(0, .ref (a 0)), (1, .ref (b 0)), (2, .int x2), (3, .int x3), (4, .int x4), (5, .int r4), (6, .int r5)]) dX0_find_59 (by decide) rfl [1, 2, 3, 4, 5, 6, 0] rfl rfl ?_
        refine lm_iload C dX0_find_61 6 rfl rfl ?_
        refine lm_if_lt C (tgt := 117) dX0_find_63 (by decide) rfl (fun c6 => ?_) (fun c6 => ?_)
        · have hF := lm_brt hF c6
          refine lm_iinc C (lv' := [(0, .ref (a 0)), (1, .ref (b 0)), (2, .int x2), (3, .int x3), (4, .int (x4 + (-1 : Int32))), (5, .int r4), (6, .int r5)]) (x4 + (-1 : Int32)) dX0_find_117 4 rfl rfl (by decide) rfl [1, 2, 3, 4, 0, 5, 6] rfl rfl ?_
          refine lm_goto C (tgt := 40) dX0_find_120 (by decide) ?_
          refine lm_lvsub (lv' := [(0, .ref (a 0)), (1, .ref (b 0)), (2, .int x2), (3, .int x3), (4, .int (x4 + (-1 : Int32)))]) [0, 1, 2, 3, 4] rfl ?_
          exact ih σx x2 x3 (x4 + (-1 : Int32)) hF
        · have hF := lm_brf hF c6
          refine lm_iload C dX0_find_66 6 rfl rfl ?_
          refine lm_bipush C (v := (10 : Int32)) dX0_find_68 (by decide) rfl ?_
          refine lm_icmp_ge C (tgt := 117) dX0_find_70 (by decide) rfl (fun c7 => ?_) (fun c7 => ?_)
          · have hF := lm_brt hF c7
            refine lm_iinc C (lv' := [(0, .ref (a 0)), (1, .ref (b 0)), (2, .int x2), (3, .int x3), (4, .int (x4 + (-1 : Int32))), (5, .int r4), (6, .int r5)]) (x4 + (-1 : Int32)) dX0_find_117 4 rfl rfl (by decide) rfl [1, 2, 3, 4, 0, 5, 6] rfl rfl ?_
            refine lm_goto C (tgt := 40) dX0_find_120 (by decide) ?_
            refine lm_lvsub (lv' := [(0, .ref (a 0)), (1, .ref (b 0)), (2, .int x2), (3, .int x3), (4, .int (x4 + (-1 : Int32)))]) [0, 1, 2, 3, 4] rfl ?_
            exact ih σx x2 x3 (x4 + (-1 : Int32)) hF
          · have hF := lm_brf hF c7
            refine lm_iload C dX0_find_73 5 rfl rfl ?_
            refine lm_iload_n C dX0_find_75 rfl 2 rfl rfl ?_
            refine lm_icmp_lt C (tgt := 117) dX0_find_76 (by decide) rfl (fun c8 => ?_) (fun c8 => ?_)
            · have hF := lm_brt hF c8
              refine lm_iinc C (lv' := [(0, .ref (a 0)), (1, .ref (b 0)), (2, .int x2), (3, .int x3), (4, .int (x4 + (-1 : Int32))), (5, .int r4), (6, .int r5)]) (x4 + (-1 : Int32)) dX0_find_117 4 rfl rfl (by decide) rfl [1, 2, 3, 4, 0, 5, 6] rfl rfl ?_
              refine lm_goto C (tgt := 40) dX0_find_120 (by decide) ?_
              refine lm_lvsub (lv' := [(0, .ref (a 0)), (1, .ref (b 0)), (2, .int x2), (3, .int x3), (4, .int (x4 + (-1 : Int32)))]) [0, 1, 2, 3, 4] rfl ?_
              exact ih σx x2 x3 (x4 + (-1 : Int32)) hF
            · have hF := lm_brf hF c8
              refine lm_iload C dX0_find_79 5 rfl rfl ?_
              refine lm_iload_n C dX0_find_81 rfl 3 rfl rfl ?_
              refine lm_icmp_gt C (tgt := 117) dX0_find_82 (by decide) rfl (fun c9 => ?_) (fun c9 => ?_)
              · have hF := lm_brt hF c9
                refine lm_iinc C (lv' := [(0, .ref (a 0)), (1, .ref (b 0)), (2, .int x2), (3, .int x3), (4, .int (x4 + (-1 : Int32))), (5, .int r4), (6, .int r5)]) (x4 + (-1 : Int32)) dX0_find_117 4 rfl rfl (by decide) rfl [1, 2, 3, 4, 0, 5, 6] rfl rfl ?_
                refine lm_goto C (tgt := 40) dX0_find_120 (by decide) ?_
                refine lm_lvsub (lv' := [(0, .ref (a 0)), (1, .ref (b 0)), (2, .int x2), (3, .int x3), (4, .int (x4 + (-1 : Int32)))]) [0, 1, 2, 3, 4] rfl ?_
                exact ih σx x2 x3 (x4 + (-1 : Int32)) hF
              · have hF := lm_brf hF c9
                refine lm_aload_n C dX0_find_85 rfl 0 rfl rfl ?_
                refine lm_getf C (T := TX0) (N := 3) (v := .ref (a 1)) in0_X0_find 0 rfl rfl 0 (by decide) fl9_X0_find rfl rfl dX0_find_86 rfl ?_
                refine lm_iload C dX0_find_89 6 rfl rfl ?_
                refine lm_dup2 C dX0_find_91 rfl rfl rfl ?_
                obtain ⟨b10, hF⟩ := lm_gie hF
                refine lm_iald C (v := (σx 1 r5.toNatClampNeg)) 1 rfl b10 rfl dX0_find_92 rfl ?_
                refine lm_iconst C (v := (1 : Int32)) dX0_find_93 (by decide) rfl ?_
                refine lm_iadd C dX0_find_94 rfl rfl ?_
                obtain ⟨b17, hF⟩ := lm_gie hF
                obtain ⟨σ11, eσ11, hF⟩ := lm_lte hF
                refine lm_iast C (w' := (anW z a σ11 ++ tbW z b ρ)) 1 rfl b17 dX0_find_95 (by rw [← eσ11]; rfl) rfl ?_
                refine lm_aload_n C dX0_find_96 rfl 0 rfl rfl ?_
                refine lm_getf C (T := TX0) (N := 3) (v := .ref (a 2)) in0_X0_find 0 rfl rfl 1 (by decide) fl15_X0_find rfl rfl dX0_find_97 rfl ?_
                refine lm_iload C dX0_find_100 6 rfl rfl ?_
                refine lm_dup2 C dX0_find_102 rfl rfl rfl ?_
                obtain ⟨b12, hF⟩ := lm_gie hF
                refine lm_iald C (v := (σ11 2 r5.toNatClampNeg)) 2 rfl b12 rfl dX0_find_103 rfl ?_
                refine lm_iload C dX0_find_104 5 rfl rfl ?_
                refine lm_iadd C dX0_find_106 rfl rfl ?_
                obtain ⟨b16, hF⟩ := lm_gie hF
                obtain ⟨σ13, eσ13, hF⟩ := lm_lte hF
                refine lm_iast C (w' := (anW z a σ13 ++ tbW z b ρ)) 2 rfl b16 dX0_find_107 (by rw [← eσ13]; rfl) rfl ?_
                refine lm_aload_n C dX0_find_108 rfl 0 rfl rfl ?_
                refine lm_getf C (T := TX0) (N := 3) (v := .ref (a 3)) in0_X0_find 0 rfl rfl 2 (by decide) fl18_X0_find rfl rfl dX0_find_109 rfl ?_
                refine lm_iload C dX0_find_112 6 rfl rfl ?_
                refine lm_iload C dX0_find_114 4 rfl rfl ?_
                obtain ⟨b15, hF⟩ := lm_gie hF
                obtain ⟨σ14, eσ14, hF⟩ := lm_lte hF
                refine lm_iast C (w' := (anW z a σ14 ++ tbW z b ρ)) 3 rfl b15 dX0_find_116 (by rw [← eσ14]; rfl) rfl ?_
                refine lm_iinc C (lv' := [(0, .ref (a 0)), (1, .ref (b 0)), (2, .int x2), (3, .int x3), (4, .int (x4 + (-1 : Int32))), (5, .int r4), (6, .int r5)]) (x4 + (-1 : Int32)) dX0_find_117 4 rfl rfl (by decide) rfl [1, 2, 3, 4, 0, 5, 6] rfl rfl ?_
                refine lm_goto C (tgt := 40) dX0_find_120 (by decide) ?_
                refine lm_lvsub (lv' := [(0, .ref (a 0)), (1, .ref (b 0)), (2, .int x2), (3, .int x3), (4, .int (x4 + (-1 : Int32)))]) [0, 1, 2, 3, 4] rfl ?_
                exact ih σ14 x2 x3 (x4 + (-1 : Int32)) hF
  have loop_3 : ∀ (n : Nat) (σx : Hp) (x2 : Int32) (x3 : Int32) (x4 : Int32), F_X0_find_L3 n σx ρ x2 x3 x4 = some σ' → lm_St p l e ({ frames := 1, cells := 0, slots := 0, locals := 21 }) s m_ args below meth c D (va_A (anW z a σ ++ tbW z b ρ) s.heap.size) 7 0 0 (lm_End below D none (anW z a σ ++ tbW z b ρ) (anW z a σ' ++ tbW z b ρ) args s) false (anW z a σx ++ tbW z b ρ) 3 [(0, .ref (a 0)), (1, .ref (b 0)), (2, .int x2), (3, .int x3), (4, .int x4)] [] := by
    intro n
    induction n with
    | zero => intro σx x2 x3 x4 hF; cases (show (none : Option _) = some _ from hF)
    | succ n ih =>
      intro σx x2 x3 x4 hF
      rw [F_X0_find_L3] at hF
      refine lm_iload C dX0_find_3 4 rfl rfl ?_
      refine lm_bipush C (v := (10 : Int32)) dX0_find_5 (by decide) rfl ?_
      refine lm_icmp_ge C (tgt := 32) dX0_find_7 (by decide) rfl (fun c1 => ?_) (fun c1 => ?_)
      · have hF := lm_brt hF c1
        refine lm_aload_n C dX0_find_32 rfl 1 rfl rfl ?_
        obtain ⟨r2, qr2, hF⟩ := lm_bde hF
        refine lm_callVR C (n := 0) (ci := 5) (m_X5_size D z zo l b ρ  r2 qr2) gX0_find_X5_size rfl (by decide +kernel) ⟨Nat.le_of_ble_eq_true rfl, Nat.le_of_ble_eq_true rfl⟩ ⟨Nat.le_of_ble_eq_true rfl, Nat.le_of_ble_eq_true rfl⟩ 4 rfl rfl (fun _ h => List.mem_append_right _ h) rfl rfl (Nat.le_of_ble_eq_true rfl) dX0_find_33 (st' := [.int r2]) rfl rfl ?_
        refine lm_iconst C (v := (1 : Int32)) dX0_find_36 (by decide) rfl ?_
        refine lm_isub C dX0_find_37 rfl rfl ?_
        refine lm_istore C (lv' := [(0, .ref (a 0)), (1, .ref (b 0)), (2, .int x2), (3, .int x3), (4, .int (r2 - (1 : Int32)))]) dX0_find_38 (by decide) rfl [1, 2, 3, 4, 0] rfl rfl ?_
        exact loop_40 1000 σx x2 x3 (r2 - (1 : Int32)) hF
      · have hF := lm_brf hF c1
        refine lm_aload_n C dX0_find_10 rfl 0 rfl rfl ?_
        refine lm_getf C (T := TX0) (N := 3) (v := .ref (a 1)) in0_X0_find 0 rfl rfl 0 (by decide) fl9_X0_find rfl rfl dX0_find_11 rfl ?_
        refine lm_iload C dX0_find_14 4 rfl rfl ?_
        refine lm_iconst C (v := (0 : Int32)) dX0_find_16 (by decide) rfl ?_
        obtain ⟨b21, hF⟩ := lm_gie hF
        obtain ⟨σ18, eσ18, hF⟩ := lm_lte hF
        refine lm_iast C (w' := (anW z a σ18 ++ tbW z b ρ)) 1 rfl b21 dX0_find_17 (by rw [← eσ18]; rfl) rfl ?_
        refine lm_aload_n C dX0_find_18 rfl 0 rfl rfl ?_
        refine lm_getf C (T := TX0) (N := 3) (v := .ref (a 2)) in0_X0_find 0 rfl rfl 1 (by decide) fl15_X0_find rfl rfl dX0_find_19 rfl ?_
        refine lm_iload C dX0_find_22 4 rfl rfl ?_
        refine lm_iconst C (v := (0 : Int32)) dX0_find_24 (by decide) rfl ?_
        obtain ⟨b20, hF⟩ := lm_gie hF
        obtain ⟨σ19, eσ19, hF⟩ := lm_lte hF
        refine lm_iast C (w' := (anW z a σ19 ++ tbW z b ρ)) 2 rfl b20 dX0_find_25 (by rw [← eσ19]; rfl) rfl ?_
        refine lm_iinc C (lv' := [(0, .ref (a 0)), (1, .ref (b 0)), (2, .int x2), (3, .int x3), (4, .int (x4 + (1 : Int32)))]) (x4 + (1 : Int32)) dX0_find_26 4 rfl rfl (by decide) rfl [1, 2, 3, 4, 0] rfl rfl ?_
        refine lm_goto C (tgt := 3) dX0_find_29 (by decide) ?_
        exact ih σ19 x2 x3 (x4 + (1 : Int32)) hF
  show lm_St p l e ({ frames := 1, cells := 0, slots := 0, locals := 21 }) s m_ args below meth c D (va_A (anW z a σ ++ tbW z b ρ) s.heap.size) 7 0 0 (lm_End below D none (anW z a σ ++ tbW z b ρ) (anW z a σ' ++ tbW z b ρ) args s) false (anW z a σ ++ tbW z b ρ) 0 [(0, .ref (a 0)), (1, .ref (b 0)), (2, .int x2), (3, .int x3)] []
  rw [F_X0_find] at hF
  refine lm_iconst C (v := (0 : Int32)) dX0_find_0 (by decide) rfl ?_
  refine lm_istore C (lv' := [(0, .ref (a 0)), (1, .ref (b 0)), (2, .int x2), (3, .int x3), (4, .int (0 : Int32))]) dX0_find_1 (by decide) rfl [1, 2, 3, 4, 0] rfl rfl ?_
  exact loop_3 1000 σ x2 x3 (0 : Int32) hF
def F_X0_weight (σ : Hp) (x1 : Int32) : Option Int32 :=
  lm_br (x1 < 0)
   (some (2 : Int32))
   (lm_br ((10 : Int32) ≤ x1)
    (some (2 : Int32))
    (lm_gi x1 10
    (some ((2 : Int32) + (σ 1 x1.toNatClampNeg)))))
theorem in0_X0_weight : ∀ w ∈ u_ws RX0 TX0 3, w ∈ wsX0_weight := by decide +kernel
theorem fl9_X0_weight : Cond.fieldLink RX0 9 "LoopMemo$Answers" "rows" "[I" ∈ wsX0_weight := by decide +kernel
set_option maxRecDepth 100000 in
set_option maxHeartbeats 4000000 in
theorem m_X0_weight (D : va_G) (z zo : ClassId) (l : Launch) (a : Nat → Nat) (σ : Hp) (x1 : Int32) (r : Int32)  (hF : F_X0_weight σ x1 = some r) : lm_CR D z zo l yX0_weight wsX0_weight 0 0 [.ref (a 0), .int x1] (anW z a σ) (some (.int r)) := by
  refine lm_CR.of (by decide) rfl (Nat.le_of_ble_eq_true rfl) (own := RX0) rfl ?_
  intro p e s m_ args below meth c C hr hk
  show lm_St p l e ({ frames := 0, cells := 0, slots := 0, locals := 0 }) s m_ args below meth c D (fun _ => False) 2 0 0 (lm_EndR below (some (.int r)) args s) true (anW z a σ) 0 [(0, .ref (a 0)), (1, .int x1)] []
  rw [F_X0_weight] at hF
  refine lm_iconst C (v := (2 : Int32)) dX0_weight_0 (by decide) rfl ?_
  refine lm_iload_n C dX0_weight_1 rfl 1 rfl rfl ?_
  refine lm_if_lt C (tgt := 23) dX0_weight_2 (by decide) rfl (fun c1 => ?_) (fun c1 => ?_)
  · have hF := lm_brt hF c1
    refine lm_iconst C (v := (0 : Int32)) dX0_weight_23 (by decide) rfl ?_
    refine lm_iadd C (v := (2 : Int32)) dX0_weight_24 (by decide) rfl ?_
    cases hF
    exact lm_iretR C hr hk rfl dX0_weight_25
  · have hF := lm_brf hF c1
    refine lm_iload_n C dX0_weight_5 rfl 1 rfl rfl ?_
    refine lm_aload_n C dX0_weight_6 rfl 0 rfl rfl ?_
    refine lm_getf C (T := TX0) (N := 3) (v := .ref (a 1)) in0_X0_weight 0 rfl rfl 0 (by decide) fl9_X0_weight rfl rfl dX0_weight_7 rfl ?_
    refine lm_alen C (v := (10 : Int32)) 1 rfl rfl dX0_weight_10 rfl ?_
    refine lm_icmp_ge C (tgt := 23) dX0_weight_11 (by decide) rfl (fun c2 => ?_) (fun c2 => ?_)
    · have hF := lm_brt hF c2
      refine lm_iconst C (v := (0 : Int32)) dX0_weight_23 (by decide) rfl ?_
      refine lm_iadd C (v := (2 : Int32)) dX0_weight_24 (by decide) rfl ?_
      cases hF
      exact lm_iretR C hr hk rfl dX0_weight_25
    · have hF := lm_brf hF c2
      refine lm_aload_n C dX0_weight_14 rfl 0 rfl rfl ?_
      refine lm_getf C (T := TX0) (N := 3) (v := .ref (a 1)) in0_X0_weight 0 rfl rfl 0 (by decide) fl9_X0_weight rfl rfl dX0_weight_15 rfl ?_
      refine lm_iload_n C dX0_weight_18 rfl 1 rfl rfl ?_
      obtain ⟨b3, hF⟩ := lm_gie hF
      refine lm_iald C (v := (σ 1 x1.toNatClampNeg)) 1 rfl b3 rfl dX0_weight_19 rfl ?_
      refine lm_goto C (tgt := 24) dX0_weight_20 (by decide) ?_
      refine lm_iadd C dX0_weight_24 rfl rfl ?_
      cases hF
      exact lm_iretR C hr hk rfl dX0_weight_25
def F_X0_sum (σ : Hp) (x1 : Int32) : Option Int32 :=
  lm_br (x1 < 0)
   (some (0 : Int32))
   (lm_br ((10 : Int32) ≤ x1)
    (some (0 : Int32))
    (lm_gi x1 10
    (some (σ 2 x1.toNatClampNeg))))
theorem in0_X0_sum : ∀ w ∈ u_ws RX0 TX0 3, w ∈ wsX0_sum := by decide +kernel
theorem fl15_X0_sum : Cond.fieldLink RX0 15 "LoopMemo$Answers" "sums" "[I" ∈ wsX0_sum := by decide +kernel
set_option maxRecDepth 100000 in
set_option maxHeartbeats 4000000 in
theorem m_X0_sum (D : va_G) (z zo : ClassId) (l : Launch) (a : Nat → Nat) (σ : Hp) (x1 : Int32) (r : Int32)  (hF : F_X0_sum σ x1 = some r) : lm_CR D z zo l yX0_sum wsX0_sum 0 0 [.ref (a 0), .int x1] (anW z a σ) (some (.int r)) := by
  refine lm_CR.of (by decide) rfl (Nat.le_of_ble_eq_true rfl) (own := RX0) rfl ?_
  intro p e s m_ args below meth c C hr hk
  show lm_St p l e ({ frames := 0, cells := 0, slots := 0, locals := 0 }) s m_ args below meth c D (fun _ => False) 2 0 0 (lm_EndR below (some (.int r)) args s) true (anW z a σ) 0 [(0, .ref (a 0)), (1, .int x1)] []
  rw [F_X0_sum] at hF
  refine lm_iload_n C dX0_sum_0 rfl 1 rfl rfl ?_
  refine lm_if_lt C (tgt := 22) dX0_sum_1 (by decide) rfl (fun c1 => ?_) (fun c1 => ?_)
  · have hF := lm_brt hF c1
    refine lm_iconst C (v := (0 : Int32)) dX0_sum_22 (by decide) rfl ?_
    cases hF
    exact lm_iretR C hr hk rfl dX0_sum_23
  · have hF := lm_brf hF c1
    refine lm_iload_n C dX0_sum_4 rfl 1 rfl rfl ?_
    refine lm_aload_n C dX0_sum_5 rfl 0 rfl rfl ?_
    refine lm_getf C (T := TX0) (N := 3) (v := .ref (a 2)) in0_X0_sum 0 rfl rfl 1 (by decide) fl15_X0_sum rfl rfl dX0_sum_6 rfl ?_
    refine lm_alen C (v := (10 : Int32)) 2 rfl rfl dX0_sum_9 rfl ?_
    refine lm_icmp_ge C (tgt := 22) dX0_sum_10 (by decide) rfl (fun c2 => ?_) (fun c2 => ?_)
    · have hF := lm_brt hF c2
      refine lm_iconst C (v := (0 : Int32)) dX0_sum_22 (by decide) rfl ?_
      cases hF
      exact lm_iretR C hr hk rfl dX0_sum_23
    · have hF := lm_brf hF c2
      refine lm_aload_n C dX0_sum_13 rfl 0 rfl rfl ?_
      refine lm_getf C (T := TX0) (N := 3) (v := .ref (a 2)) in0_X0_sum 0 rfl rfl 1 (by decide) fl15_X0_sum rfl rfl dX0_sum_14 rfl ?_
      refine lm_iload_n C dX0_sum_17 rfl 1 rfl rfl ?_
      obtain ⟨b3, hF⟩ := lm_gie hF
      refine lm_iald C (v := (σ 2 x1.toNatClampNeg)) 2 rfl b3 rfl dX0_sum_18 rfl ?_
      refine lm_goto C (tgt := 23) dX0_sum_19 (by decide) ?_
      cases hF
      exact lm_iretR C hr hk rfl dX0_sum_23
def F_X0_tell (σ : Hp) (x1 x2 : Int32) : Option Int32 :=
  lm_br (x1 < 0)
   (some (-1 : Int32))
   (lm_br (x1 < (10 : Int32))
    (lm_br (x2 = (0 : Int32))
     (lm_gi x1 10
     (some (σ 1 x1.toNatClampNeg)))
     (lm_br (x2 = (1 : Int32))
      (lm_bd (F_X0_weight σ x1) fun r6 =>
      some r6)
      (lm_br (x2 = (2 : Int32))
       (lm_gi x1 10
       (some (σ 2 x1.toNatClampNeg)))
       (lm_gi x1 10
       (lm_br (¬ (σ 1 x1.toNatClampNeg) = 0)
        (lm_gi x1 10
        (some (σ 3 x1.toNatClampNeg)))
        (some (-4 : Int32)))))))
    (some (-1 : Int32)))
theorem in0_X0_tell : ∀ w ∈ u_ws RX0 TX0 3, w ∈ wsX0_tell := by decide +kernel
theorem fl9_X0_tell : Cond.fieldLink RX0 9 "LoopMemo$Answers" "rows" "[I" ∈ wsX0_tell := by decide +kernel
theorem fl15_X0_tell : Cond.fieldLink RX0 15 "LoopMemo$Answers" "sums" "[I" ∈ wsX0_tell := by decide +kernel
theorem fl18_X0_tell : Cond.fieldLink RX0 18 "LoopMemo$Answers" "firstRows" "[I" ∈ wsX0_tell := by decide +kernel
set_option maxRecDepth 100000 in
set_option maxHeartbeats 4000000 in
theorem m_X0_tell (D : va_G) (z zo : ClassId) (l : Launch) (a : Nat → Nat) (σ : Hp) (x1 x2 : Int32) (r : Int32)  (hF : F_X0_tell σ x1 x2 = some r) : lm_CR D z zo l yX0_tell wsX0_tell 1 21 [.ref (a 0), .int x1, .int x2] (anW z a σ) (some (.int r)) := by
  refine lm_CR.of (by decide) rfl (Nat.le_of_ble_eq_true rfl) (own := RX0) rfl ?_
  intro p e s m_ args below meth c C hr hk
  show lm_St p l e ({ frames := 1, cells := 0, slots := 0, locals := 21 }) s m_ args below meth c D (fun _ => False) 3 0 0 (lm_EndR below (some (.int r)) args s) true (anW z a σ) 0 [(0, .ref (a 0)), (1, .int x1), (2, .int x2)] []
  rw [F_X0_tell] at hF
  refine lm_iload_n C dX0_tell_0 rfl 1 rfl rfl ?_
  refine lm_if_lt C (tgt := 10) dX0_tell_1 (by decide) rfl (fun c1 => ?_) (fun c1 => ?_)
  · have hF := lm_brt hF c1
    refine lm_iconst C (v := (-1 : Int32)) dX0_tell_10 (by decide) rfl ?_
    cases hF
    exact lm_iretR C hr hk rfl dX0_tell_11
  · have hF := lm_brf hF c1
    refine lm_iload_n C dX0_tell_4 rfl 1 rfl rfl ?_
    refine lm_bipush C (v := (10 : Int32)) dX0_tell_5 (by decide) rfl ?_
    refine lm_icmp_lt C (tgt := 12) dX0_tell_7 (by decide) rfl (fun c2 => ?_) (fun c2 => ?_)
    · have hF := lm_brt hF c2
      refine lm_iload_n C dX0_tell_12 rfl 2 rfl rfl ?_
      rcases Classical.em (x2 = (0 : Int32)) with c3 | c3
      · have hF := lm_brt hF c3
        refine lm_tableIn C (0 : Int32) (off := 27) (tgt := 40) dX0_tell_13 c3 (by decide) (by decide) (by decide) (by decide) ?_
        refine lm_aload_n C dX0_tell_40 rfl 0 rfl rfl ?_
        refine lm_getf C (T := TX0) (N := 3) (v := .ref (a 1)) in0_X0_tell 0 rfl rfl 0 (by decide) fl9_X0_tell rfl rfl dX0_tell_41 rfl ?_
        refine lm_iload_n C dX0_tell_44 rfl 1 rfl rfl ?_
        obtain ⟨b4, hF⟩ := lm_gie hF
        refine lm_iald C (v := (σ 1 x1.toNatClampNeg)) 1 rfl b4 rfl dX0_tell_45 rfl ?_
        cases hF
        exact lm_iretR C hr hk rfl dX0_tell_46
      · have hF := lm_brf hF c3
        rcases Classical.em (x2 = (1 : Int32)) with c5 | c5
        · have hF := lm_brt hF c5
          refine lm_tableIn C (1 : Int32) (off := 34) (tgt := 47) dX0_tell_13 c5 (by decide) (by decide) (by decide) (by decide) ?_
          refine lm_aload_n C dX0_tell_47 rfl 0 rfl rfl ?_
          refine lm_iload_n C dX0_tell_48 rfl 1 rfl rfl ?_
          obtain ⟨r6, qr6, hF⟩ := lm_bde hF
          refine lm_callVR C (n := 1) (ci := 0) (m_X0_weight D z zo l a σ x1 r6 qr6) gX0_tell_X0_weight rfl (by decide +kernel) ⟨Nat.le_of_ble_eq_true rfl, Nat.le_of_ble_eq_true rfl⟩ ⟨Nat.le_of_ble_eq_true rfl, Nat.le_of_ble_eq_true rfl⟩ 0 rfl rfl (fun _ h => h) rfl rfl (Nat.le_of_ble_eq_true rfl) dX0_tell_49 (st' := [.int r6]) rfl rfl ?_
          cases hF
          exact lm_iretR C hr hk rfl dX0_tell_52
        · have hF := lm_brf hF c5
          rcases Classical.em (x2 = (2 : Int32)) with c7 | c7
          · have hF := lm_brt hF c7
            refine lm_tableIn C (2 : Int32) (off := 40) (tgt := 53) dX0_tell_13 c7 (by decide) (by decide) (by decide) (by decide) ?_
            refine lm_aload_n C dX0_tell_53 rfl 0 rfl rfl ?_
            refine lm_getf C (T := TX0) (N := 3) (v := .ref (a 2)) in0_X0_tell 0 rfl rfl 1 (by decide) fl15_X0_tell rfl rfl dX0_tell_54 rfl ?_
            refine lm_iload_n C dX0_tell_57 rfl 1 rfl rfl ?_
            obtain ⟨b8, hF⟩ := lm_gie hF
            refine lm_iald C (v := (σ 2 x1.toNatClampNeg)) 2 rfl b8 rfl dX0_tell_58 rfl ?_
            cases hF
            exact lm_iretR C hr hk rfl dX0_tell_59
          · have hF := lm_brf hF c7
            refine lm_tableOut C (tgt := 60) dX0_tell_13 (by have nc3 := lv_neT c3 (a := 0) (by decide); have nc5 := lv_neT c5 (a := 1) (by decide); have nc7 := lv_neT c7 (a := 2) (by decide); omega) (by decide) ?_
            refine lm_aload_n C dX0_tell_60 rfl 0 rfl rfl ?_
            refine lm_getf C (T := TX0) (N := 3) (v := .ref (a 1)) in0_X0_tell 0 rfl rfl 0 (by decide) fl9_X0_tell rfl rfl dX0_tell_61 rfl ?_
            refine lm_iload_n C dX0_tell_64 rfl 1 rfl rfl ?_
            obtain ⟨b9, hF⟩ := lm_gie hF
            refine lm_iald C (v := (σ 1 x1.toNatClampNeg)) 1 rfl b9 rfl dX0_tell_65 rfl ?_
            refine lm_if_ne C (tgt := 74) dX0_tell_66 (by decide) rfl (fun c10 => ?_) (fun c10 => ?_)
            · have hF := lm_brt hF c10
              refine lm_aload_n C dX0_tell_74 rfl 0 rfl rfl ?_
              refine lm_getf C (T := TX0) (N := 3) (v := .ref (a 3)) in0_X0_tell 0 rfl rfl 2 (by decide) fl18_X0_tell rfl rfl dX0_tell_75 rfl ?_
              refine lm_iload_n C dX0_tell_78 rfl 1 rfl rfl ?_
              obtain ⟨b11, hF⟩ := lm_gie hF
              refine lm_iald C (v := (σ 3 x1.toNatClampNeg)) 3 rfl b11 rfl dX0_tell_79 rfl ?_
              cases hF
              exact lm_iretR C hr hk rfl dX0_tell_80
            · have hF := lm_brf hF c10
              refine lm_bipush C (v := (-4 : Int32)) dX0_tell_69 (by decide) rfl ?_
              refine lm_goto C (tgt := 80) dX0_tell_71 (by decide) ?_
              cases hF
              exact lm_iretR C hr hk rfl dX0_tell_80
    · have hF := lm_brf hF c2
      refine lm_iconst C (v := (-1 : Int32)) dX0_tell_10 (by decide) rfl ?_
      cases hF
      exact lm_iretR C hr hk rfl dX0_tell_11
