def F_X6_isWithin  (x1 x2 : Int32) : Option Int32 :=
  lm_br (x1 < 0)
   (some (0 : Int32))
   (lm_br (x2 < x1)
    (some (0 : Int32))
    (some (1 : Int32)))
set_option maxRecDepth 100000 in
set_option maxHeartbeats 4000000 in
theorem m_X6_isWithin (D : va_G) (z zo : ClassId) (l : Launch)   (x1 x2 : Int32) (r : Int32)  (hF : F_X6_isWithin  x1 x2 = some r) : lm_CR D z zo l yX6_isWithin wsX6_isWithin 0 0 [.int x1, .int x2] [] (some (.int r)) := by
  refine lm_CR.of (by decide) rfl (Nat.le_of_ble_eq_true rfl) (own := RX6) rfl ?_
  intro p e s m_ args below meth c C hr hk
  show lm_St p l e ({ frames := 0, cells := 0, slots := 0, locals := 0 }) s m_ args below meth c D (fun _ => False) 2 0 0 (lm_EndR below (some (.int r)) args s) true [] 0 [(0, .int x1), (1, .int x2)] []
  rw [F_X6_isWithin] at hF
  refine lm_iload_n C dX6_isWithin_0 rfl 0 rfl rfl ?_
  refine lm_if_lt C (tgt := 13) dX6_isWithin_1 (by decide) rfl (fun c1 => ?_) (fun c1 => ?_)
  · have hF := lm_brt hF c1
    refine lm_iconst C (v := (0 : Int32)) dX6_isWithin_13 (by decide) rfl ?_
    cases hF
    exact lm_zretR C hr hk rfl rfl dX6_isWithin_14
  · have hF := lm_brf hF c1
    refine lm_iload_n C dX6_isWithin_4 rfl 0 rfl rfl ?_
    refine lm_iload_n C dX6_isWithin_5 rfl 1 rfl rfl ?_
    refine lm_icmp_gt C (tgt := 13) dX6_isWithin_6 (by decide) rfl (fun c2 => ?_) (fun c2 => ?_)
    · have hF := lm_brt hF c2
      refine lm_iconst C (v := (0 : Int32)) dX6_isWithin_13 (by decide) rfl ?_
      cases hF
      exact lm_zretR C hr hk rfl rfl dX6_isWithin_14
    · have hF := lm_brf hF c2
      refine lm_iconst C (v := (1 : Int32)) dX6_isWithin_9 (by decide) rfl ?_
      refine lm_goto C (tgt := 14) dX6_isWithin_10 (by decide) ?_
      cases hF
      exact lm_zretR C hr hk rfl rfl dX6_isWithin_14
def F_X6_isKey  (x1 : Int32) : Option Int32 :=
  lm_bd (F_X6_isWithin x1 (9 : Int32)) fun r1 =>
  lm_gd (r1 = 0 ∨ r1 = 1) (some r1)
set_option maxRecDepth 100000 in
set_option maxHeartbeats 4000000 in
theorem m_X6_isKey (D : va_G) (z zo : ClassId) (l : Launch)   (x1 : Int32) (r : Int32)  (hF : F_X6_isKey  x1 = some r) : lm_CR D z zo l yX6_isKey wsX6_isKey 1 21 [.int x1] [] (some (.int r)) := by
  refine lm_CR.of (by decide) rfl (Nat.le_of_ble_eq_true rfl) (own := RX6) rfl ?_
  intro p e s m_ args below meth c C hr hk
  show lm_St p l e ({ frames := 1, cells := 0, slots := 0, locals := 21 }) s m_ args below meth c D (fun _ => False) 1 0 0 (lm_EndR below (some (.int r)) args s) true [] 0 [(0, .int x1)] []
  rw [F_X6_isKey] at hF
  refine lm_iload_n C dX6_isKey_0 rfl 0 rfl rfl ?_
  refine lm_bipush C (v := (9 : Int32)) dX6_isKey_1 (by decide) rfl ?_
  obtain ⟨r1, qr1, hF⟩ := lm_bde hF
  refine lm_callSR C (n := 2) (m_X6_isWithin D z zo l   x1 (9 : Int32) r1 qr1) gX6_isKey_X6_isWithin rfl (by decide +kernel) ⟨Nat.le_of_ble_eq_true rfl, Nat.le_of_ble_eq_true rfl⟩ ⟨Nat.le_of_ble_eq_true rfl, Nat.le_of_ble_eq_true rfl⟩ (fun _ h => absurd h List.not_mem_nil) rfl rfl (Nat.le_of_ble_eq_true rfl) dX6_isKey_3 (st' := [.int r1]) rfl rfl ?_
  obtain ⟨c2, hF⟩ := lm_gde hF
  cases hF
  exact lm_zretR C hr hk (lm_boolok c2) rfl dX6_isKey_6
def F_X6_isRow  (x1 x2 : Int32) : Option Int32 :=
  lm_bd (F_X6_isKey x1) fun r1 =>
  lm_br (r1 = 0)
   (some (0 : Int32))
   (lm_bd (F_X6_isWithin x2 (99 : Int32)) fun r3 =>
   lm_br (r3 = 0)
    (some (0 : Int32))
    (some (1 : Int32)))
set_option maxRecDepth 100000 in
set_option maxHeartbeats 4000000 in
theorem m_X6_isRow (D : va_G) (z zo : ClassId) (l : Launch)   (x1 x2 : Int32) (r : Int32)  (hF : F_X6_isRow  x1 x2 = some r) : lm_CR D z zo l yX6_isRow wsX6_isRow 2 41 [.int x1, .int x2] [] (some (.int r)) := by
  refine lm_CR.of (by decide) rfl (Nat.le_of_ble_eq_true rfl) (own := RX6) rfl ?_
  intro p e s m_ args below meth c C hr hk
  show lm_St p l e ({ frames := 2, cells := 0, slots := 0, locals := 41 }) s m_ args below meth c D (fun _ => False) 2 0 0 (lm_EndR below (some (.int r)) args s) true [] 0 [(0, .int x1), (1, .int x2)] []
  rw [F_X6_isRow] at hF
  refine lm_iload_n C dX6_isRow_0 rfl 0 rfl rfl ?_
  obtain ⟨r1, qr1, hF⟩ := lm_bde hF
  refine lm_callSR C (n := 1) (m_X6_isKey D z zo l   x1 r1 qr1) gX6_isRow_X6_isKey rfl (by decide +kernel) ⟨Nat.le_of_ble_eq_true rfl, Nat.le_of_ble_eq_true rfl⟩ ⟨Nat.le_of_ble_eq_true rfl, Nat.le_of_ble_eq_true rfl⟩ (fun _ h => absurd h List.not_mem_nil) rfl rfl (Nat.le_of_ble_eq_true rfl) dX6_isRow_1 (st' := [.int r1]) rfl rfl ?_
  refine lm_if_eq C (tgt := 20) dX6_isRow_4 (by decide) rfl (fun c2 => ?_) (fun c2 => ?_)
  · have hF := lm_brt hF c2
    refine lm_iconst C (v := (0 : Int32)) dX6_isRow_20 (by decide) rfl ?_
    cases hF
    exact lm_zretR C hr hk rfl rfl dX6_isRow_21
  · have hF := lm_brf hF c2
    refine lm_iload_n C dX6_isRow_7 rfl 1 rfl rfl ?_
    refine lm_bipush C (v := (99 : Int32)) dX6_isRow_8 (by decide) rfl ?_
    obtain ⟨r3, qr3, hF⟩ := lm_bde hF
    refine lm_callSR C (n := 2) (m_X6_isWithin D z zo l   x2 (99 : Int32) r3 qr3) gX6_isRow_X6_isWithin rfl (by decide +kernel) ⟨Nat.le_of_ble_eq_true rfl, Nat.le_of_ble_eq_true rfl⟩ ⟨Nat.le_of_ble_eq_true rfl, Nat.le_of_ble_eq_true rfl⟩ (fun _ h => absurd h List.not_mem_nil) rfl rfl (Nat.le_of_ble_eq_true rfl) dX6_isRow_10 (st' := [.int r3]) rfl rfl ?_
    refine lm_if_eq C (tgt := 20) dX6_isRow_13 (by decide) rfl (fun c4 => ?_) (fun c4 => ?_)
    · have hF := lm_brt hF c4
      refine lm_iconst C (v := (0 : Int32)) dX6_isRow_20 (by decide) rfl ?_
      cases hF
      exact lm_zretR C hr hk rfl rfl dX6_isRow_21
    · have hF := lm_brf hF c4
      refine lm_iconst C (v := (1 : Int32)) dX6_isRow_16 (by decide) rfl ?_
      refine lm_goto C (tgt := 21) dX6_isRow_17 (by decide) ?_
      cases hF
      exact lm_zretR C hr hk rfl rfl dX6_isRow_21
theorem cn_h0 : Cond.methodLink RX6 225 arraycopyName ∈ wsX6_copyNumbers := by decide +kernel
theorem cn_h1 : Cond.native arraycopyName ∈ wsX6_copyNumbers := by decide +kernel
theorem cn_h2 : Cond.static arraycopyName ∈ wsX6_copyNumbers := by decide +kernel
theorem cn_h3 : Cond.initialized "java/lang/System" ∈ wsX6_copyNumbers := by decide +kernel
theorem cn_m0 : Cond.methodLink RX6 117 Lib.Math.min.name ∈ wsX6_copyNumbers := by decide +kernel
theorem cn_m1 : Cond.static Lib.Math.min.name ∈ wsX6_copyNumbers := by decide +kernel
theorem cn_m2 : Cond.initialized "java/lang/Math" ∈ wsX6_copyNumbers := by decide +kernel
theorem cn_m3 : Cond.code Lib.Math.min.name Lib.Math.min.code 2 (some .int) ∈ wsX6_copyNumbers := by decide +kernel
set_option maxRecDepth 100000 in
set_option maxHeartbeats 4000000 in
theorem m_X6_copyNumbers (D : va_G) (z zo : ClassId) (l : Launch) (q1 q2 n : Nat) (f g : Nat → Int32) (hn : n < 1000) : lm_C D z zo l yX6_copyNumbers wsX6_copyNumbers 1 40 [.ref q1, .ref q2] [(q1, .inl (z, n, .inl f)), (q2, .inl (z, n, .inl g))] none [(q1, .inl (z, n, .inl f)), (q2, .inl (z, n, .inl (va_cpy f g 0 0 n)))] := by
  refine lm_C.of (by decide) rfl (Nat.le_of_ble_eq_true rfl) (own := RX6) rfl ?_
  intro p e s m_ args below meth c C hr hk hA
  refine lm_aload_n C dX6_copyNumbers_0 rfl 0 rfl rfl ?_
  refine lm_iconst C (v := 0) dX6_copyNumbers_1 (by decide) rfl ?_
  refine lm_aload_n C dX6_copyNumbers_2 rfl 1 rfl rfl ?_
  refine lm_iconst C (v := 0) dX6_copyNumbers_3 (by decide) rfl ?_
  refine lm_aload_n C dX6_copyNumbers_4 rfl 0 rfl rfl ?_
  refine lm_alen C (v := nI n) 0 rfl rfl dX6_copyNumbers_5 rfl ?_
  refine lm_aload_n C dX6_copyNumbers_6 rfl 1 rfl rfl ?_
  refine lm_alen C (v := nI n) 1 rfl rfl dX6_copyNumbers_7 rfl ?_
  refine lm_mmin C cn_m0 cn_m1 cn_m2 cn_m3 (Nat.le_of_ble_eq_true rfl) (Nat.le_of_ble_eq_true rfl) rfl (Nat.le_of_ble_eq_true rfl) dX6_copyNumbers_8 rfl ?_
  refine lm_copyi C (n := n) cn_h0 cn_h1 cn_h2 cn_h3 0 1 rfl rfl (by omega) (Nat.le_refl n) (Nat.le_refl n) (by simp) (Nat.le_of_ble_eq_true rfl) (Nat.le_of_ble_eq_true rfl) (by decide) dX6_copyNumbers_11 rfl rfl ?_
  exact lm_vret C hr hk rfl rfl dX6_copyNumbers_14
