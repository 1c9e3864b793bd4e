def F_X3_size (σ : Hp)  : Option Int32 :=
  some (σ 0 1)
theorem in3_X3_size : ∀ w ∈ u_ws RX3 TX3 9, w ∈ wsX3_size := by decide +kernel
theorem fl15_X3_size : Cond.fieldLink RX3 15 "LoopMemo$Pad" "size" "I" ∈ wsX3_size := by decide +kernel
set_option maxRecDepth 100000 in
set_option maxHeartbeats 4000000 in
theorem m_X3_size (D : va_G) (z zo : ClassId) (l : Launch) (a : Nat → Nat) (σ : Hp)  (r : Int32)  (hF : F_X3_size σ  = some r) : lm_CR D z zo l yX3_size wsX3_size 0 0 [.ref (a 0)] (pdW z a σ) (some (.int r)) := by
  refine lm_CR.of (by decide) rfl (Nat.le_of_ble_eq_true rfl) (own := RX3) rfl ?_
  intro p e s m_ args below meth c C hr hk
  show lm_St p l e ({ frames := 0, cells := 0, slots := 0, locals := 0 }) s m_ args below meth c D (fun _ => False) 1 0 0 (lm_EndR below (some (.int r)) args s) true (pdW z a σ) 0 [(0, .ref (a 0))] []
  rw [F_X3_size] at hF
  refine lm_aload_n C dX3_size_0 rfl 0 rfl rfl ?_
  refine lm_getf C (T := TX3) (N := 9) (v := .int (σ 0 1)) in3_X3_size 0 rfl rfl 1 (by decide) fl15_X3_size rfl rfl dX3_size_1 rfl ?_
  cases hF
  exact lm_iretR C hr hk rfl dX3_size_4
