def F_X5_copyFrom (σ : Hp) (ρ : Hp)  : Option (Hp) :=
  lm_lt (lm_ua σ 1 (va_cpy (ρ 1) (σ 1) 0 0 20)) fun σ1 =>
  lm_lt (lm_ua σ1 2 (va_cpy (ρ 2) (σ1 2) 0 0 20)) fun σ2 =>
  lm_lt (lm_u σ2 0 2 (ρ 0 2)) fun σ3 =>
  some σ3
theorem in5_X5_copyFrom : ∀ w ∈ u_ws RX5 TX5 3, w ∈ wsX5_copyFrom := by decide +kernel
theorem fl9_X5_copyFrom : Cond.fieldLink RX5 9 "LoopMemo$Table" "keys" "[I" ∈ wsX5_copyFrom := by decide +kernel
theorem fl15_X5_copyFrom : Cond.fieldLink RX5 15 "LoopMemo$Table" "values" "[I" ∈ wsX5_copyFrom := by decide +kernel
theorem fl22_X5_copyFrom : Cond.fieldLink RX5 22 "LoopMemo$Table" "size" "I" ∈ wsX5_copyFrom := by decide +kernel
theorem ini_X6_copyNumbers_X5_copyFrom : Cond.initialized yX6_copyNumbers.cls ∈ wsX5_copyFrom := by decide +kernel
theorem sta_X6_copyNumbers_X5_copyFrom : Cond.static yX6_copyNumbers ∈ wsX5_copyFrom := by decide +kernel
set_option maxRecDepth 100000 in
set_option maxHeartbeats 4000000 in
theorem m_X5_copyFrom (D : va_G) (z zo : ClassId) (l : Launch) (a : Nat → Nat) (b : Nat → Nat) (σ : Hp) (ρ : Hp)   (σ' : Hp) (hF : F_X5_copyFrom σ ρ  = some σ') : lm_C D z zo l yX5_copyFrom wsX5_copyFrom 2 61 [.ref (a 0), .ref (b 0)] (tbW z a σ ++ tbW z b ρ) none (tbW z a σ' ++ tbW z b ρ) := by
  refine lm_C.of (by decide) rfl (Nat.le_of_ble_eq_true rfl) (own := RX5) rfl ?_
  intro p e s m_ args below meth c C hr hk hA
  show lm_St p l e ({ frames := 2, cells := 0, slots := 0, locals := 61 }) s m_ args below meth c D (va_A (tbW z a σ ++ tbW z b ρ) s.heap.size) 2 0 0 (lm_End below D none (tbW z a σ ++ tbW z b ρ) (tbW z a σ' ++ tbW z b ρ) args s) false (tbW z a σ ++ tbW z b ρ) 0 [(0, .ref (a 0)), (1, .ref (b 0))] []
  rw [F_X5_copyFrom] at hF
  refine lm_aload_n C dX5_copyFrom_0 rfl 1 rfl rfl ?_
  refine lm_getf C (T := TX5) (N := 3) (v := .ref (b 1)) in5_X5_copyFrom 3 rfl rfl 0 (by decide) fl9_X5_copyFrom rfl rfl dX5_copyFrom_1 rfl ?_
  refine lm_aload_n C dX5_copyFrom_4 rfl 0 rfl rfl ?_
  refine lm_getf C (T := TX5) (N := 3) (v := .ref (a 1)) in5_X5_copyFrom 0 rfl rfl 0 (by decide) fl9_X5_copyFrom rfl rfl dX5_copyFrom_5 rfl ?_
  obtain ⟨σ1, eσ1, hF⟩ := lm_lte hF
  refine lm_callSN C (n := 2) (w' := (tbW z a σ1 ++ tbW z b ρ)) (wr := ((tbW z a σ ++ tbW z b ρ).eraseIdx 4).eraseIdx 1) hA (m_X6_copyNumbers D z zo l (b 1) (a 1) 20 (ρ 1) (σ 1) (by decide)) gX5_copyFrom_X6_copyNumbers_n18 rfl ini_X6_copyNumbers_X5_copyFrom sta_X6_copyNumbers_X5_copyFrom (by decide +kernel) ⟨Nat.le_of_ble_eq_true rfl, Nat.le_of_ble_eq_true rfl⟩ ⟨Nat.le_of_ble_eq_true rfl, Nat.le_of_ble_eq_true rfl⟩ (by decide +kernel) (lm_pick2 (tbW z a σ ++ tbW z b ρ) 4 1 _ _ rfl rfl) (by rw [← eσ1]; exact lm_pick2' 4 1 rfl rfl rfl) rfl rfl (Nat.le_of_ble_eq_true rfl) dX5_copyFrom_8 (st' := []) rfl rfl ?_
  refine lm_aload_n C dX5_copyFrom_11 rfl 1 rfl rfl ?_
  refine lm_getf C (T := TX5) (N := 3) (v := .ref (b 2)) in5_X5_copyFrom 3 rfl rfl 1 (by decide) fl15_X5_copyFrom rfl rfl dX5_copyFrom_12 rfl ?_
  refine lm_aload_n C dX5_copyFrom_15 rfl 0 rfl rfl ?_
  refine lm_getf C (T := TX5) (N := 3) (v := .ref (a 2)) in5_X5_copyFrom 0 rfl rfl 1 (by decide) fl15_X5_copyFrom rfl rfl dX5_copyFrom_16 rfl ?_
  obtain ⟨σ2, eσ2, hF⟩ := lm_lte hF
  refine lm_callSN C (n := 2) (w' := (tbW z a σ2 ++ tbW z b ρ)) (wr := ((tbW z a σ1 ++ tbW z b ρ).eraseIdx 5).eraseIdx 2) hA (m_X6_copyNumbers D z zo l (b 2) (a 2) 20 (ρ 2) (σ1 2) (by decide)) gX5_copyFrom_X6_copyNumbers_n18 rfl ini_X6_copyNumbers_X5_copyFrom sta_X6_copyNumbers_X5_copyFrom (by decide +kernel) ⟨Nat.le_of_ble_eq_true rfl, Nat.le_of_ble_eq_true rfl⟩ ⟨Nat.le_of_ble_eq_true rfl, Nat.le_of_ble_eq_true rfl⟩ (by decide +kernel) (lm_pick2 (tbW z a σ1 ++ tbW z b ρ) 5 2 _ _ rfl rfl) (by rw [← eσ2]; exact lm_pick2' 5 2 rfl rfl rfl) rfl rfl (Nat.le_of_ble_eq_true rfl) dX5_copyFrom_19 (st' := []) rfl rfl ?_
  refine lm_aload_n C dX5_copyFrom_22 rfl 0 rfl rfl ?_
  refine lm_aload_n C dX5_copyFrom_23 rfl 1 rfl rfl ?_
  refine lm_getf C (T := TX5) (N := 3) (v := .int (ρ 0 2)) in5_X5_copyFrom 3 rfl rfl 2 (by decide) fl22_X5_copyFrom rfl rfl dX5_copyFrom_24 rfl ?_
  obtain ⟨σ3, eσ3, hF⟩ := lm_lte hF
  refine lm_putf C (T := TX5) (N := 3) (ty := .int) (v := .int (ρ 0 2)) (w' := (tbW z a σ3 ++ tbW z b ρ)) in5_X5_copyFrom tyX5 tyX5_ok nmX5 0 rfl rfl 2 (by decide) fl22_X5_copyFrom rfl rfl rfl rfl rfl (Nat.le_of_ble_eq_true rfl) dX5_copyFrom_27 (by rw [← eσ3]; rfl) rfl ?_
  cases hF
  exact lm_vret C hr hk rfl rfl dX5_copyFrom_30
def F_X5_size (σ : Hp)  : Option Int32 :=
  some (σ 0 2)
theorem in5_X5_size : ∀ w ∈ u_ws RX5 TX5 3, w ∈ wsX5_size := by decide +kernel
theorem fl22_X5_size : Cond.fieldLink RX5 22 "LoopMemo$Table" "size" "I" ∈ wsX5_size := by decide +kernel
set_option maxRecDepth 100000 in
set_option maxHeartbeats 4000000 in
theorem m_X5_size (D : va_G) (z zo : ClassId) (l : Launch) (a : Nat → Nat) (σ : Hp)  (r : Int32)  (hF : F_X5_size σ  = some r) : lm_CR D z zo l yX5_size wsX5_size 0 0 [.ref (a 0)] (tbW z a σ) (some (.int r)) := by
  refine lm_CR.of (by decide) rfl (Nat.le_of_ble_eq_true rfl) (own := RX5) rfl ?_
  intro p e s m_ args below meth c C hr hk
  show lm_St p l e ({ frames := 0, cells := 0, slots := 0, locals := 0 }) s m_ args below meth c D (fun _ => False) 1 0 0 (lm_EndR below (some (.int r)) args s) true (tbW z a σ) 0 [(0, .ref (a 0))] []
  rw [F_X5_size] at hF
  refine lm_aload_n C dX5_size_0 rfl 0 rfl rfl ?_
  refine lm_getf C (T := TX5) (N := 3) (v := .int (σ 0 2)) in5_X5_size 0 rfl rfl 2 (by decide) fl22_X5_size rfl rfl dX5_size_1 rfl ?_
  cases hF
  exact lm_iretR C hr hk rfl dX5_size_4
def F_X5_has (σ : Hp) (x1 : Int32) : Option Int32 :=
  lm_br (x1 < 0)
   (some (0 : Int32))
   (lm_br ((σ 0 2) ≤ x1)
    (some (0 : Int32))
    (some (1 : Int32)))
theorem in5_X5_has : ∀ w ∈ u_ws RX5 TX5 3, w ∈ wsX5_has := by decide +kernel
theorem fl22_X5_has : Cond.fieldLink RX5 22 "LoopMemo$Table" "size" "I" ∈ wsX5_has := by decide +kernel
set_option maxRecDepth 100000 in
set_option maxHeartbeats 4000000 in
theorem m_X5_has (D : va_G) (z zo : ClassId) (l : Launch) (a : Nat → Nat) (σ : Hp) (x1 : Int32) (r : Int32)  (hF : F_X5_has σ x1 = some r) : lm_CR D z zo l yX5_has wsX5_has 0 0 [.ref (a 0), .int x1] (tbW z a σ) (some (.int r)) := by
  refine lm_CR.of (by decide) rfl (Nat.le_of_ble_eq_true rfl) (own := RX5) rfl ?_
  intro p e s m_ args below meth c C hr hk
  show lm_St p l e ({ frames := 0, cells := 0, slots := 0, locals := 0 }) s m_ args below meth c D (fun _ => False) 2 0 0 (lm_EndR below (some (.int r)) args s) true (tbW z a σ) 0 [(0, .ref (a 0)), (1, .int x1)] []
  rw [F_X5_has] at hF
  refine lm_iload_n C dX5_has_0 rfl 1 rfl rfl ?_
  refine lm_if_lt C (tgt := 16) dX5_has_1 (by decide) rfl (fun c1 => ?_) (fun c1 => ?_)
  · have hF := lm_brt hF c1
    refine lm_iconst C (v := (0 : Int32)) dX5_has_16 (by decide) rfl ?_
    cases hF
    exact lm_zretR C hr hk rfl rfl dX5_has_17
  · have hF := lm_brf hF c1
    refine lm_iload_n C dX5_has_4 rfl 1 rfl rfl ?_
    refine lm_aload_n C dX5_has_5 rfl 0 rfl rfl ?_
    refine lm_getf C (T := TX5) (N := 3) (v := .int (σ 0 2)) in5_X5_has 0 rfl rfl 2 (by decide) fl22_X5_has rfl rfl dX5_has_6 rfl ?_
    refine lm_icmp_ge C (tgt := 16) dX5_has_9 (by decide) rfl (fun c2 => ?_) (fun c2 => ?_)
    · have hF := lm_brt hF c2
      refine lm_iconst C (v := (0 : Int32)) dX5_has_16 (by decide) rfl ?_
      cases hF
      exact lm_zretR C hr hk rfl rfl dX5_has_17
    · have hF := lm_brf hF c2
      refine lm_iconst C (v := (1 : Int32)) dX5_has_12 (by decide) rfl ?_
      refine lm_goto C (tgt := 17) dX5_has_13 (by decide) ?_
      cases hF
      exact lm_zretR C hr hk rfl rfl dX5_has_17
def F_X5_key (σ : Hp) (x1 : Int32) : Option Int32 :=
  lm_br (x1 < 0)
   (some (0 : Int32))
   (lm_br ((20 : Int32) ≤ x1)
    (some (0 : Int32))
    (lm_gi x1 20
    (some (σ 1 x1.toNatClampNeg))))
theorem in5_X5_key : ∀ w ∈ u_ws RX5 TX5 3, w ∈ wsX5_key := by decide +kernel
theorem fl9_X5_key : Cond.fieldLink RX5 9 "LoopMemo$Table" "keys" "[I" ∈ wsX5_key := by decide +kernel
set_option maxRecDepth 100000 in
set_option maxHeartbeats 4000000 in
theorem m_X5_key (D : va_G) (z zo : ClassId) (l : Launch) (a : Nat → Nat) (σ : Hp) (x1 : Int32) (r : Int32)  (hF : F_X5_key σ x1 = some r) : lm_CR D z zo l yX5_key wsX5_key 0 0 [.ref (a 0), .int x1] (tbW z a σ) (some (.int r)) := by
  refine lm_CR.of (by decide) rfl (Nat.le_of_ble_eq_true rfl) (own := RX5) rfl ?_
  intro p e s m_ args below meth c C hr hk
  show lm_St p l e ({ frames := 0, cells := 0, slots := 0, locals := 0 }) s m_ args below meth c D (fun _ => False) 2 0 0 (lm_EndR below (some (.int r)) args s) true (tbW z a σ) 0 [(0, .ref (a 0)), (1, .int x1)] []
  rw [F_X5_key] at hF
  refine lm_iload_n C dX5_key_0 rfl 1 rfl rfl ?_
  refine lm_if_lt C (tgt := 22) dX5_key_1 (by decide) rfl (fun c1 => ?_) (fun c1 => ?_)
  · have hF := lm_brt hF c1
    refine lm_iconst C (v := (0 : Int32)) dX5_key_22 (by decide) rfl ?_
    cases hF
    exact lm_iretR C hr hk rfl dX5_key_23
  · have hF := lm_brf hF c1
    refine lm_iload_n C dX5_key_4 rfl 1 rfl rfl ?_
    refine lm_aload_n C dX5_key_5 rfl 0 rfl rfl ?_
    refine lm_getf C (T := TX5) (N := 3) (v := .ref (a 1)) in5_X5_key 0 rfl rfl 0 (by decide) fl9_X5_key rfl rfl dX5_key_6 rfl ?_
    refine lm_alen C (v := (20 : Int32)) 1 rfl rfl dX5_key_9 rfl ?_
    refine lm_icmp_ge C (tgt := 22) dX5_key_10 (by decide) rfl (fun c2 => ?_) (fun c2 => ?_)
    · have hF := lm_brt hF c2
      refine lm_iconst C (v := (0 : Int32)) dX5_key_22 (by decide) rfl ?_
      cases hF
      exact lm_iretR C hr hk rfl dX5_key_23
    · have hF := lm_brf hF c2
      refine lm_aload_n C dX5_key_13 rfl 0 rfl rfl ?_
      refine lm_getf C (T := TX5) (N := 3) (v := .ref (a 1)) in5_X5_key 0 rfl rfl 0 (by decide) fl9_X5_key rfl rfl dX5_key_14 rfl ?_
      refine lm_iload_n C dX5_key_17 rfl 1 rfl rfl ?_
      obtain ⟨b3, hF⟩ := lm_gie hF
      refine lm_iald C (v := (σ 1 x1.toNatClampNeg)) 1 rfl b3 rfl dX5_key_18 rfl ?_
      refine lm_goto C (tgt := 23) dX5_key_19 (by decide) ?_
      cases hF
      exact lm_iretR C hr hk rfl dX5_key_23
def F_X5_value (σ : Hp) (x1 : Int32) : Option Int32 :=
  lm_br (x1 < 0)
   (some (0 : Int32))
   (lm_br ((20 : Int32) ≤ x1)
    (some (0 : Int32))
    (lm_gi x1 20
    (some (σ 2 x1.toNatClampNeg))))
theorem in5_X5_value : ∀ w ∈ u_ws RX5 TX5 3, w ∈ wsX5_value := by decide +kernel
theorem fl15_X5_value : Cond.fieldLink RX5 15 "LoopMemo$Table" "values" "[I" ∈ wsX5_value := by decide +kernel
set_option maxRecDepth 100000 in
set_option maxHeartbeats 4000000 in
theorem m_X5_value (D : va_G) (z zo : ClassId) (l : Launch) (a : Nat → Nat) (σ : Hp) (x1 : Int32) (r : Int32)  (hF : F_X5_value σ x1 = some r) : lm_CR D z zo l yX5_value wsX5_value 0 0 [.ref (a 0), .int x1] (tbW z a σ) (some (.int r)) := by
  refine lm_CR.of (by decide) rfl (Nat.le_of_ble_eq_true rfl) (own := RX5) rfl ?_
  intro p e s m_ args below meth c C hr hk
  show lm_St p l e ({ frames := 0, cells := 0, slots := 0, locals := 0 }) s m_ args below meth c D (fun _ => False) 2 0 0 (lm_EndR below (some (.int r)) args s) true (tbW z a σ) 0 [(0, .ref (a 0)), (1, .int x1)] []
  rw [F_X5_value] at hF
  refine lm_iload_n C dX5_value_0 rfl 1 rfl rfl ?_
  refine lm_if_lt C (tgt := 22) dX5_value_1 (by decide) rfl (fun c1 => ?_) (fun c1 => ?_)
  · have hF := lm_brt hF c1
    refine lm_iconst C (v := (0 : Int32)) dX5_value_22 (by decide) rfl ?_
    cases hF
    exact lm_iretR C hr hk rfl dX5_value_23
  · have hF := lm_brf hF c1
    refine lm_iload_n C dX5_value_4 rfl 1 rfl rfl ?_
    refine lm_aload_n C dX5_value_5 rfl 0 rfl rfl ?_
    refine lm_getf C (T := TX5) (N := 3) (v := .ref (a 2)) in5_X5_value 0 rfl rfl 1 (by decide) fl15_X5_value rfl rfl dX5_value_6 rfl ?_
    refine lm_alen C (v := (20 : Int32)) 2 rfl rfl dX5_value_9 rfl ?_
    refine lm_icmp_ge C (tgt := 22) dX5_value_10 (by decide) rfl (fun c2 => ?_) (fun c2 => ?_)
    · have hF := lm_brt hF c2
      refine lm_iconst C (v := (0 : Int32)) dX5_value_22 (by decide) rfl ?_
      cases hF
      exact lm_iretR C hr hk rfl dX5_value_23
    · have hF := lm_brf hF c2
      refine lm_aload_n C dX5_value_13 rfl 0 rfl rfl ?_
      refine lm_getf C (T := TX5) (N := 3) (v := .ref (a 2)) in5_X5_value 0 rfl rfl 1 (by decide) fl15_X5_value rfl rfl dX5_value_14 rfl ?_
      refine lm_iload_n C dX5_value_17 rfl 1 rfl rfl ?_
      obtain ⟨b3, hF⟩ := lm_gie hF
      refine lm_iald C (v := (σ 2 x1.toNatClampNeg)) 2 rfl b3 rfl dX5_value_18 rfl ?_
      refine lm_goto C (tgt := 23) dX5_value_19 (by decide) ?_
      cases hF
      exact lm_iretR C hr hk rfl dX5_value_23
def F_X5_put (σ : Hp) (x1 x2 x3 : Int32) : Option (Hp) :=
  lm_br (x1 < 0)
   (some σ)
   (lm_br ((20 : Int32) ≤ x1)
    (some σ)
    (lm_gi x1 20
    (lm_lt (lm_u σ 1 (x1.toNatClampNeg) x2) fun σ4 =>
    lm_gi x1 20
    (lm_lt (lm_u σ4 2 (x1.toNatClampNeg) x3) fun σ5 =>
    some σ5))))
theorem in5_X5_put : ∀ w ∈ u_ws RX5 TX5 3, w ∈ wsX5_put := by decide +kernel
theorem fl9_X5_put : Cond.fieldLink RX5 9 "LoopMemo$Table" "keys" "[I" ∈ wsX5_put := by decide +kernel
theorem fl15_X5_put : Cond.fieldLink RX5 15 "LoopMemo$Table" "values" "[I" ∈ wsX5_put := by decide +kernel
set_option maxRecDepth 100000 in
set_option maxHeartbeats 4000000 in
theorem m_X5_put (D : va_G) (z zo : ClassId) (l : Launch) (a : Nat → Nat) (σ : Hp) (x1 x2 x3 : Int32)  (σ' : Hp) (hF : F_X5_put σ x1 x2 x3 = some σ') : lm_C D z zo l yX5_put wsX5_put 0 0 [.ref (a 0), .int x1, .int x2, .int x3] (tbW z a σ) none (tbW z a σ') := by
  refine lm_C.of (by decide) rfl (Nat.le_of_ble_eq_true rfl) (own := RX5) rfl ?_
  intro p e s m_ args below meth c C hr hk hA
  show lm_St p l e ({ frames := 0, cells := 0, slots := 0, locals := 0 }) s m_ args below meth c D (va_A (tbW z a σ) s.heap.size) 4 0 0 (lm_End below D none (tbW z a σ) (tbW z a σ') args s) false (tbW z a σ) 0 [(0, .ref (a 0)), (1, .int x1), (2, .int x2), (3, .int x3)] []
  rw [F_X5_put] at hF
  refine lm_iload_n C dX5_put_0 rfl 1 rfl rfl ?_
  refine lm_if_lt C (tgt := 36) dX5_put_1 (by decide) rfl (fun c1 => ?_) (fun c1 => ?_)
  · have hF := lm_brt hF c1
    cases hF
    exact lm_vret C hr hk rfl rfl dX5_put_36
  · have hF := lm_brf hF c1
    refine lm_iload_n C dX5_put_4 rfl 1 rfl rfl ?_
    refine lm_aload_n C dX5_put_5 rfl 0 rfl rfl ?_
    refine lm_getf C (T := TX5) (N := 3) (v := .ref (a 1)) in5_X5_put 0 rfl rfl 0 (by decide) fl9_X5_put rfl rfl dX5_put_6 rfl ?_
    refine lm_alen C (v := (20 : Int32)) 1 rfl rfl dX5_put_9 rfl ?_
    refine lm_icmp_ge C (tgt := 36) dX5_put_10 (by decide) rfl (fun c2 => ?_) (fun c2 => ?_)
    · have hF := lm_brt hF c2
      cases hF
      exact lm_vret C hr hk rfl rfl dX5_put_36
    · have hF := lm_brf hF c2
      refine lm_iload_n C dX5_put_13 rfl 1 rfl rfl ?_
      refine lm_aload_n C dX5_put_14 rfl 0 rfl rfl ?_
      refine lm_getf C (T := TX5) (N := 3) (v := .ref (a 2)) in5_X5_put 0 rfl rfl 1 (by decide) fl15_X5_put rfl rfl dX5_put_15 rfl ?_
      refine lm_alen C (v := (20 : Int32)) 2 rfl rfl dX5_put_18 rfl ?_
      refine lm_icmp_ge C (tgt := 36) dX5_put_19 (by decide) rfl (fun c3 => ?_) (fun c3 => ?_)
      · exact (by simp_all : False).elim
      · refine lm_aload_n C dX5_put_22 rfl 0 rfl rfl ?_
        refine lm_getf C (T := TX5) (N := 3) (v := .ref (a 1)) in5_X5_put 0 rfl rfl 0 (by decide) fl9_X5_put rfl rfl dX5_put_23 rfl ?_
        refine lm_iload_n C dX5_put_26 rfl 1 rfl rfl ?_
        refine lm_iload_n C dX5_put_27 rfl 2 rfl rfl ?_
        obtain ⟨b7, hF⟩ := lm_gie hF
        obtain ⟨σ4, eσ4, hF⟩ := lm_lte hF
        refine lm_iast C (w' := (tbW z a σ4)) 1 rfl b7 dX5_put_28 (by rw [← eσ4]; rfl) rfl ?_
        refine lm_aload_n C dX5_put_29 rfl 0 rfl rfl ?_
        refine lm_getf C (T := TX5) (N := 3) (v := .ref (a 2)) in5_X5_put 0 rfl rfl 1 (by decide) fl15_X5_put rfl rfl dX5_put_30 rfl ?_
        refine lm_iload_n C dX5_put_33 rfl 1 rfl rfl ?_
        refine lm_iload_n C dX5_put_34 rfl 3 rfl rfl ?_
        obtain ⟨b6, hF⟩ := lm_gie hF
        obtain ⟨σ5, eσ5, hF⟩ := lm_lte hF
        refine lm_iast C (w' := (tbW z a σ5)) 2 rfl b6 dX5_put_35 (by rw [← eσ5]; rfl) rfl ?_
        cases hF
        exact lm_vret C hr hk rfl rfl dX5_put_36
def F_X5_push (σ : Hp) (x1 x2 : Int32) : Option (Hp) :=
  lm_br ((20 : Int32) ≤ (σ 0 2))
   (some σ)
   (lm_bd (F_X5_put σ (σ 0 2) x1 x2) fun σ2 =>
   lm_lt (lm_u σ2 0 2 ((σ2 0 2) + (1 : Int32))) fun σ3 =>
   some σ3)
theorem in5_X5_push : ∀ w ∈ u_ws RX5 TX5 3, w ∈ wsX5_push := by decide +kernel
theorem fl22_X5_push : Cond.fieldLink RX5 22 "LoopMemo$Table" "size" "I" ∈ wsX5_push := by decide +kernel
set_option maxRecDepth 100000 in
set_option maxHeartbeats 4000000 in
theorem m_X5_push (D : va_G) (z zo : ClassId) (l : Launch) (a : Nat → Nat) (σ : Hp) (x1 x2 : Int32)  (σ' : Hp) (hF : F_X5_push σ x1 x2 = some σ') : lm_C D z zo l yX5_push wsX5_push 1 23 [.ref (a 0), .int x1, .int x2] (tbW z a σ) none (tbW z a σ') := by
  refine lm_C.of (by decide) rfl (Nat.le_of_ble_eq_true rfl) (own := RX5) rfl ?_
  intro p e s m_ args below meth c C hr hk hA
  show lm_St p l e ({ frames := 1, cells := 0, slots := 0, locals := 23 }) s m_ args below meth c D (va_A (tbW z a σ) s.heap.size) 3 0 0 (lm_End below D none (tbW z a σ) (tbW z a σ') args s) false (tbW z a σ) 0 [(0, .ref (a 0)), (1, .int x1), (2, .int x2)] []
  rw [F_X5_push] at hF
  refine lm_aload_n C dX5_push_0 rfl 0 rfl rfl ?_
  refine lm_getf C (T := TX5) (N := 3) (v := .int (σ 0 2)) in5_X5_push 0 rfl rfl 2 (by decide) fl22_X5_push rfl rfl dX5_push_1 rfl ?_
  refine lm_bipush C (v := (20 : Int32)) dX5_push_4 (by decide) rfl ?_
  refine lm_icmp_ge C (tgt := 29) dX5_push_6 (by decide) rfl (fun c1 => ?_) (fun c1 => ?_)
  · have hF := lm_brt hF c1
    cases hF
    exact lm_vret C hr hk rfl rfl dX5_push_29
  · have hF := lm_brf hF c1
    refine lm_aload_n C dX5_push_9 rfl 0 rfl rfl ?_
    refine lm_aload_n C dX5_push_10 rfl 0 rfl rfl ?_
    refine lm_getf C (T := TX5) (N := 3) (v := .int (σ 0 2)) in5_X5_push 0 rfl rfl 2 (by decide) fl22_X5_push rfl rfl dX5_push_11 rfl ?_
    refine lm_iload_n C dX5_push_14 rfl 1 rfl rfl ?_
    refine lm_iload_n C dX5_push_15 rfl 2 rfl rfl ?_
    obtain ⟨σ2, qσ2, hF⟩ := lm_bde hF
    refine lm_callV C (n := 3) (ci := 5) (w' := (tbW z a σ2)) hA (m_X5_put D z zo l a σ (σ 0 2) x1 x2 σ2 qσ2) gX5_push_X5_put rfl (by decide +kernel) ⟨Nat.le_of_ble_eq_true rfl, Nat.le_of_ble_eq_true rfl⟩ ⟨Nat.le_of_ble_eq_true rfl, Nat.le_of_ble_eq_true rfl⟩ 0 rfl rfl lm_pr lm_pr' rfl rfl (Nat.le_of_ble_eq_true rfl) dX5_push_16 (st' := []) rfl rfl ?_
    refine lm_aload_n C dX5_push_19 rfl 0 rfl rfl ?_
    refine lm_dup C dX5_push_20 rfl rfl ?_
    refine lm_getf C (T := TX5) (N := 3) (v := .int (σ2 0 2)) in5_X5_push 0 rfl rfl 2 (by decide) fl22_X5_push rfl rfl dX5_push_21 rfl ?_
    refine lm_iconst C (v := (1 : Int32)) dX5_push_24 (by decide) rfl ?_
    refine lm_iadd C dX5_push_25 rfl rfl ?_
    obtain ⟨σ3, eσ3, hF⟩ := lm_lte hF
    refine lm_putf C (T := TX5) (N := 3) (ty := .int) (v := .int ((σ2 0 2) + (1 : Int32))) (w' := (tbW z a σ3)) in5_X5_push tyX5 tyX5_ok nmX5 0 rfl rfl 2 (by decide) fl22_X5_push rfl rfl rfl rfl rfl (Nat.le_of_ble_eq_true rfl) dX5_push_26 (by rw [← eσ3]; rfl) rfl ?_
    cases hF
    exact lm_vret C hr hk rfl rfl dX5_push_29
def F_X5_takeOut_L11 : Nat → Hp → Int32 → Option (Hp)
  | 0, _, _ => none
  | n + 1, σx, x2 =>
    lm_br (((σx 0 2) - (1 : Int32)) ≤ x2)
     (lm_lt (lm_u σx 0 2 ((σx 0 2) - (1 : Int32))) fun σ4 =>
     some σ4)
     (lm_bd (F_X5_key σx (x2 + (1 : Int32))) fun r5 =>
     lm_bd (F_X5_value σx (x2 + (1 : Int32))) fun r6 =>
     lm_bd (F_X5_put σx x2 r5 r6) fun σ7 =>
     F_X5_takeOut_L11 n σ7 (x2 + (1 : Int32)))
def F_X5_takeOut (σ : Hp) (x1 : Int32) : Option (Hp) :=
  lm_bd (F_X5_has σ x1) fun r1 =>
  lm_br (¬ r1 = 0)
   (F_X5_takeOut_L11 1000 σ x1)
   (some σ)
theorem in5_X5_takeOut : ∀ w ∈ u_ws RX5 TX5 3, w ∈ wsX5_takeOut := by decide +kernel
theorem fl22_X5_takeOut : Cond.fieldLink RX5 22 "LoopMemo$Table" "size" "I" ∈ wsX5_takeOut := by decide +kernel
set_option maxRecDepth 100000 in
set_option maxHeartbeats 4000000 in
theorem m_X5_takeOut (D : va_G) (z zo : ClassId) (l : Launch) (a : Nat → Nat) (σ : Hp) (x1 : Int32)  (σ' : Hp) (hF : F_X5_takeOut σ x1 = some σ') : lm_C D z zo l yX5_takeOut wsX5_takeOut 1 23 [.ref (a 0), .int x1] (tbW z a σ) none (tbW z a σ') := by
  refine lm_C.of (by decide) rfl (Nat.le_of_ble_eq_true rfl) (own := RX5) rfl ?_
  intro p e s m_ args below meth c C hr hk hA
  have loop_11 : ∀ (n : Nat) (σx : Hp) (x2 : Int32), F_X5_takeOut_L11 n σx x2 = some σ' → lm_St p l e ({ frames := 1, cells := 0, slots := 0, locals := 23 }) s m_ args below meth c D (va_A (tbW z a σ) s.heap.size) 3 0 0 (lm_End below D none (tbW z a σ) (tbW z a σ') args s) false (tbW z a σx) 11 [(0, .ref (a 0)), (2, .int x2)] [] := by
    intro n
    induction n with
    | zero => intro σx x2 hF; cases (show (none : Option _) = some _ from hF)
    | succ n ih =>
      intro σx x2 hF
      rw [F_X5_takeOut_L11] at hF
      refine lm_iload_n C dX5_takeOut_11 rfl 1 rfl rfl ?_
      refine lm_aload_n C dX5_takeOut_12 rfl 0 rfl rfl ?_
      refine lm_getf C (T := TX5) (N := 3) (v := .int (σx 0 2)) in5_X5_takeOut 0 rfl rfl 2 (by decide) fl22_X5_takeOut rfl rfl dX5_takeOut_13 rfl ?_
      refine lm_iconst C (v := (1 : Int32)) dX5_takeOut_16 (by decide) rfl ?_
      refine lm_isub C dX5_takeOut_17 rfl rfl ?_
      refine lm_icmp_ge C (tgt := 46) dX5_takeOut_18 (by decide) rfl (fun c3 => ?_) (fun c3 => ?_)
      · have hF := lm_brt hF c3
        refine lm_aload_n C dX5_takeOut_46 rfl 0 rfl rfl ?_
        refine lm_dup C dX5_takeOut_47 rfl rfl ?_
        refine lm_getf C (T := TX5) (N := 3) (v := .int (σx 0 2)) in5_X5_takeOut 0 rfl rfl 2 (by decide) fl22_X5_takeOut rfl rfl dX5_takeOut_48 rfl ?_
        refine lm_iconst C (v := (1 : Int32)) dX5_takeOut_51 (by decide) rfl ?_
        refine lm_isub C dX5_takeOut_52 rfl rfl ?_
        obtain ⟨σ4, eσ4, hF⟩ := lm_lte hF
        refine lm_putf C (T := TX5) (N := 3) (ty := .int) (v := .int ((σx 0 2) - (1 : Int32))) (w' := (tbW z a σ4)) in5_X5_takeOut tyX5 tyX5_ok nmX5 0 rfl rfl 2 (by decide) fl22_X5_takeOut rfl rfl rfl rfl rfl (Nat.le_of_ble_eq_true rfl) dX5_takeOut_53 (by rw [← eσ4]; rfl) rfl ?_
        cases hF
        exact lm_vret C hr hk rfl rfl dX5_takeOut_56
      · have hF := lm_brf hF c3
        refine lm_aload_n C dX5_takeOut_21 rfl 0 rfl rfl ?_
        refine lm_iload_n C dX5_takeOut_22 rfl 1 rfl rfl ?_
        refine lm_aload_n C dX5_takeOut_23 rfl 0 rfl rfl ?_
        refine lm_iload_n C dX5_takeOut_24 rfl 1 rfl rfl ?_
        refine lm_iconst C (v := (1 : Int32)) dX5_takeOut_25 (by decide) rfl ?_
        refine lm_iadd C dX5_takeOut_26 rfl rfl ?_
        obtain ⟨r5, qr5, hF⟩ := lm_bde hF
        refine lm_callVR C (n := 1) (ci := 5) (m_X5_key D z zo l a σx (x2 + (1 : Int32)) r5 qr5) gX5_takeOut_X5_key rfl (by decide +kernel) ⟨Nat.le_of_ble_eq_true rfl, Nat.le_of_ble_eq_true rfl⟩ ⟨Nat.le_of_ble_eq_true rfl, Nat.le_of_ble_eq_true rfl⟩ 0 rfl rfl (fun _ h => h) rfl rfl (Nat.le_of_ble_eq_true rfl) dX5_takeOut_27 (st' := [.int r5, .int x2, .ref (a 0)]) rfl rfl ?_
        refine lm_aload_n C dX5_takeOut_30 rfl 0 rfl rfl ?_
        refine lm_iload_n C dX5_takeOut_31 rfl 1 rfl rfl ?_
        refine lm_iconst C (v := (1 : Int32)) dX5_takeOut_32 (by decide) rfl ?_
        refine lm_iadd C dX5_takeOut_33 rfl rfl ?_
        obtain ⟨r6, qr6, hF⟩ := lm_bde hF
        refine lm_callVR C (n := 1) (ci := 5) (m_X5_value D z zo l a σx (x2 + (1 : Int32)) r6 qr6) gX5_takeOut_X5_value rfl (by decide +kernel) ⟨Nat.le_of_ble_eq_true rfl, Nat.le_of_ble_eq_true rfl⟩ ⟨Nat.le_of_ble_eq_true rfl, Nat.le_of_ble_eq_true rfl⟩ 0 rfl rfl (fun _ h => h) rfl rfl (Nat.le_of_ble_eq_true rfl) dX5_takeOut_34 (st' := [.int r6, .int r5, .int x2, .ref (a 0)]) rfl rfl ?_
        obtain ⟨σ7, qσ7, hF⟩ := lm_bde hF
        refine lm_callV C (n := 3) (ci := 5) (w' := (tbW z a σ7)) hA (m_X5_put D z zo l a σx x2 r5 r6 σ7 qσ7) gX5_takeOut_X5_put rfl (by decide +kernel) ⟨Nat.le_of_ble_eq_true rfl, Nat.le_of_ble_eq_true rfl⟩ ⟨Nat.le_of_ble_eq_true rfl, Nat.le_of_ble_eq_true rfl⟩ 0 rfl rfl lm_pr lm_pr' rfl rfl (Nat.le_of_ble_eq_true rfl) dX5_takeOut_37 (st' := []) rfl rfl ?_
        refine lm_iinc C (lv' := [(0, .ref (a 0)), (2, .int (x2 + (1 : Int32)))]) (x2 + (1 : Int32)) dX5_takeOut_40 1 rfl rfl (by decide) rfl [1, 0] rfl rfl ?_
        refine lm_goto C (tgt := 11) dX5_takeOut_43 (by decide) ?_
        exact ih σ7 (x2 + (1 : Int32)) hF
  show lm_St p l e ({ frames := 1, cells := 0, slots := 0, locals := 23 }) s m_ args below meth c D (va_A (tbW z a σ) s.heap.size) 3 0 0 (lm_End below D none (tbW z a σ) (tbW z a σ') args s) false (tbW z a σ) 0 [(0, .ref (a 0)), (1, .int x1)] []
  rw [F_X5_takeOut] at hF
  refine lm_aload_n C dX5_takeOut_0 rfl 0 rfl rfl ?_
  refine lm_iload_n C dX5_takeOut_1 rfl 1 rfl rfl ?_
  obtain ⟨r1, qr1, hF⟩ := lm_bde hF
  refine lm_callVR C (n := 1) (ci := 5) (m_X5_has D z zo l a σ x1 r1 qr1) gX5_takeOut_X5_has rfl (by decide +kernel) ⟨Nat.le_of_ble_eq_true rfl, Nat.le_of_ble_eq_true rfl⟩ ⟨Nat.le_of_ble_eq_true rfl, Nat.le_of_ble_eq_true rfl⟩ 0 rfl rfl (fun _ h => h) rfl rfl (Nat.le_of_ble_eq_true rfl) dX5_takeOut_2 (st' := [.int r1]) rfl rfl ?_
  refine lm_if_ne C (tgt := 9) dX5_takeOut_5 (by decide) rfl (fun c2 => ?_) (fun c2 => ?_)
  · have hF := lm_brt hF c2
    refine lm_iload_n C dX5_takeOut_9 rfl 1 rfl rfl ?_
    refine lm_istore_n C (lv' := [(0, .ref (a 0)), (1, .int x1), (2, .int x1)]) dX5_takeOut_10 rfl (by decide) rfl [1, 2, 0] rfl rfl ?_
    refine lm_lvsub (lv' := [(0, .ref (a 0)), (2, .int x1)]) [0, 2] rfl ?_
    exact loop_11 1000 σ x1 hF
  · have hF := lm_brf hF c2
    cases hF
    exact lm_vret C hr hk rfl rfl dX5_takeOut_8
