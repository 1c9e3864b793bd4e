def F_X6_add (h : Nat → Hp) (x1 x2 x3 : Int32) : Option (Int32 × (Nat → Hp)) :=
  lm_bd (F_X1_prepare h) fun h1 =>
  lm_b2 (F_X4_insertRow (h1 0) x1 x2 x3) fun r4 τ2 =>
  lm_lt (lm_uB h1 0 τ2) fun h3 =>
  lm_b2 (F_X1_commit h3 r4) fun r6 h5 =>
  some (r6, h5)
theorem in6_X6_add : ∀ w ∈ u_ws RX6 TX6 9, w ∈ wsX6_add := by decide +kernel
theorem fl25_X6_add : Cond.fieldLink RX6 25 "LoopMemo" "history" "LLoopMemo$History;" ∈ wsX6_add := by decide +kernel
theorem fl10_X6_add : Cond.fieldLink RX6 10 "LoopMemo" "now" "LLoopMemo$State;" ∈ wsX6_add := by decide +kernel
set_option maxRecDepth 100000 in
set_option maxHeartbeats 4000000 in
theorem m_X6_add (D : va_G) (z zo : ClassId) (l : Launch) (m : Nat → Nat) (a : Nat → Nat → Nat) (h : Nat → Hp) (x1 x2 x3 : Int32) (r : Int32) (h' : Nat → Hp) (hF : F_X6_add h x1 x2 x3 = some (r, h')) : lm_C D z zo l yX6_add wsX6_add 5 125 [.ref (m 0), .int x1, .int x2, .int x3] (lmW z zo m a h) (some (.int r)) (lmW z zo m a h') := by
  refine lm_C.of (by decide) rfl (Nat.le_of_ble_eq_true rfl) (own := RX6) rfl ?_
  intro p e s m_ args below meth c C hr hk hA
  show lm_St p l e ({ frames := 5, cells := 0, slots := 0, locals := 125 }) s m_ args below meth c D (va_A (lmW z zo m a h) s.heap.size) 4 0 0 (lm_End below D (some (.int r)) (lmW z zo m a h) (lmW z zo m a h') args s) false (lmW z zo m a h) 0 [(0, .ref (m 0)), (1, .int x1), (2, .int x2), (3, .int x3)] []
  rw [F_X6_add] at hF
  refine lm_aload_n C dX6_add_0 rfl 0 rfl rfl ?_
  refine lm_getf C (T := TX6) (N := 9) (v := .ref (m 3)) in6_X6_add 0 rfl rfl 3 (by decide) fl25_X6_add rfl rfl dX6_add_1 rfl ?_
  refine lm_aload_n C dX6_add_4 rfl 0 rfl rfl ?_
  refine lm_getf C (T := TX6) (N := 9) (v := .ref (a 0 0)) in6_X6_add 0 rfl rfl 0 (by decide) fl10_X6_add rfl rfl dX6_add_5 rfl ?_
  obtain ⟨h1, qh1, hF⟩ := lm_bde hF
  refine lm_callV C (n := 1) (ci := 1) (w' := (lmW z zo m a h1)) hA (m_X1_prepare D z zo l m a h  h1 qh1) gX6_add_X1_prepare rfl (by decide +kernel) ⟨Nat.le_of_ble_eq_true rfl, Nat.le_of_ble_eq_true rfl⟩ ⟨Nat.le_of_ble_eq_true rfl, Nat.le_of_ble_eq_true rfl⟩ 3 rfl rfl lm_pr lm_pr' rfl rfl (Nat.le_of_ble_eq_true rfl) dX6_add_8 (st' := []) rfl rfl ?_
  refine lm_aload_n C dX6_add_11 rfl 0 rfl rfl ?_
  refine lm_getf C (T := TX6) (N := 9) (v := .ref (m 3)) in6_X6_add 0 rfl rfl 3 (by decide) fl25_X6_add rfl rfl dX6_add_12 rfl ?_
  refine lm_aload_n C dX6_add_15 rfl 0 rfl rfl ?_
  refine lm_getf C (T := TX6) (N := 9) (v := .ref (a 0 0)) in6_X6_add 0 rfl rfl 0 (by decide) fl10_X6_add rfl rfl dX6_add_16 rfl ?_
  refine lm_iload_n C dX6_add_19 rfl 1 rfl rfl ?_
  refine lm_iload_n C dX6_add_20 rfl 2 rfl rfl ?_
  refine lm_iload_n C dX6_add_21 rfl 3 rfl rfl ?_
  obtain ⟨r4, τ2, qτ2, hF⟩ := lm_b2e hF
  obtain ⟨h3, eh3, hF⟩ := lm_lte hF
  refine lm_callV C (n := 3) (ci := 4) (w' := (lmW z zo m a h3)) hA (m_X4_insertRow D z zo l (a 0) (h1 0) x1 x2 x3 r4 τ2 qτ2) gX6_add_X4_insertRow rfl (by decide +kernel) ⟨Nat.le_of_ble_eq_true rfl, Nat.le_of_ble_eq_true rfl⟩ ⟨Nat.le_of_ble_eq_true rfl, Nat.le_of_ble_eq_true rfl⟩ 5 rfl rfl (lm_g0 z zo m a h1) (by rw [← eh3]; exact lm_p0 z zo m a h1 τ2) rfl rfl (Nat.le_of_ble_eq_true rfl) dX6_add_22 (st' := [.int r4, .ref (m 3)]) rfl rfl ?_
  obtain ⟨r6, h5, qh5, hF⟩ := lm_b2e hF
  refine lm_callV C (n := 1) (ci := 1) (w' := (lmW z zo m a h5)) hA (m_X1_commit D z zo l m a h3 r4 r6 h5 qh5) gX6_add_X1_commit rfl (by decide +kernel) ⟨Nat.le_of_ble_eq_true rfl, Nat.le_of_ble_eq_true rfl⟩ ⟨Nat.le_of_ble_eq_true rfl, Nat.le_of_ble_eq_true rfl⟩ 3 rfl rfl lm_pr lm_pr' rfl rfl (Nat.le_of_ble_eq_true rfl) dX6_add_25 (st' := [.int r6]) rfl rfl ?_
  cases hF
  exact lm_iret C hr hk rfl rfl dX6_add_28
def F_X6_drop (h : Nat → Hp) (x1 x2 : Int32) : Option (Int32 × (Nat → Hp)) :=
  lm_bd (F_X1_prepare h) fun h1 =>
  lm_b2 (F_X4_removeRow (h1 0) x1 x2) fun r4 τ2 =>
  lm_lt (lm_uB h1 0 τ2) fun h3 =>
  lm_b2 (F_X1_commit h3 r4) fun r6 h5 =>
  some (r6, h5)
theorem in6_X6_drop : ∀ w ∈ u_ws RX6 TX6 9, w ∈ wsX6_drop := by decide +kernel
theorem fl25_X6_drop : Cond.fieldLink RX6 25 "LoopMemo" "history" "LLoopMemo$History;" ∈ wsX6_drop := by decide +kernel
theorem fl10_X6_drop : Cond.fieldLink RX6 10 "LoopMemo" "now" "LLoopMemo$State;" ∈ wsX6_drop := by decide +kernel
set_option maxRecDepth 100000 in
set_option maxHeartbeats 4000000 in
theorem m_X6_drop (D : va_G) (z zo : ClassId) (l : Launch) (m : Nat → Nat) (a : Nat → Nat → Nat) (h : Nat → Hp) (x1 x2 : Int32) (r : Int32) (h' : Nat → Hp) (hF : F_X6_drop h x1 x2 = some (r, h')) : lm_C D z zo l yX6_drop wsX6_drop 5 125 [.ref (m 0), .int x1, .int x2] (lmW z zo m a h) (some (.int r)) (lmW z zo m a h') := by
  refine lm_C.of (by decide) rfl (Nat.le_of_ble_eq_true rfl) (own := RX6) rfl ?_
  intro p e s m_ args below meth c C hr hk hA
  show lm_St p l e ({ frames := 5, cells := 0, slots := 0, locals := 125 }) s m_ args below meth c D (va_A (lmW z zo m a h) s.heap.size) 3 0 0 (lm_End below D (some (.int r)) (lmW z zo m a h) (lmW z zo m a h') args s) false (lmW z zo m a h) 0 [(0, .ref (m 0)), (1, .int x1), (2, .int x2)] []
  rw [F_X6_drop] at hF
  refine lm_aload_n C dX6_drop_0 rfl 0 rfl rfl ?_
  refine lm_getf C (T := TX6) (N := 9) (v := .ref (m 3)) in6_X6_drop 0 rfl rfl 3 (by decide) fl25_X6_drop rfl rfl dX6_drop_1 rfl ?_
  refine lm_aload_n C dX6_drop_4 rfl 0 rfl rfl ?_
  refine lm_getf C (T := TX6) (N := 9) (v := .ref (a 0 0)) in6_X6_drop 0 rfl rfl 0 (by decide) fl10_X6_drop rfl rfl dX6_drop_5 rfl ?_
  obtain ⟨h1, qh1, hF⟩ := lm_bde hF
  refine lm_callV C (n := 1) (ci := 1) (w' := (lmW z zo m a h1)) hA (m_X1_prepare D z zo l m a h  h1 qh1) gX6_drop_X1_prepare rfl (by decide +kernel) ⟨Nat.le_of_ble_eq_true rfl, Nat.le_of_ble_eq_true rfl⟩ ⟨Nat.le_of_ble_eq_true rfl, Nat.le_of_ble_eq_true rfl⟩ 3 rfl rfl lm_pr lm_pr' rfl rfl (Nat.le_of_ble_eq_true rfl) dX6_drop_8 (st' := []) rfl rfl ?_
  refine lm_aload_n C dX6_drop_11 rfl 0 rfl rfl ?_
  refine lm_getf C (T := TX6) (N := 9) (v := .ref (m 3)) in6_X6_drop 0 rfl rfl 3 (by decide) fl25_X6_drop rfl rfl dX6_drop_12 rfl ?_
  refine lm_aload_n C dX6_drop_15 rfl 0 rfl rfl ?_
  refine lm_getf C (T := TX6) (N := 9) (v := .ref (a 0 0)) in6_X6_drop 0 rfl rfl 0 (by decide) fl10_X6_drop rfl rfl dX6_drop_16 rfl ?_
  refine lm_iload_n C dX6_drop_19 rfl 1 rfl rfl ?_
  refine lm_iload_n C dX6_drop_20 rfl 2 rfl rfl ?_
  obtain ⟨r4, τ2, qτ2, hF⟩ := lm_b2e hF
  obtain ⟨h3, eh3, hF⟩ := lm_lte hF
  refine lm_callV C (n := 2) (ci := 4) (w' := (lmW z zo m a h3)) hA (m_X4_removeRow D z zo l (a 0) (h1 0) x1 x2 r4 τ2 qτ2) gX6_drop_X4_removeRow rfl (by decide +kernel) ⟨Nat.le_of_ble_eq_true rfl, Nat.le_of_ble_eq_true rfl⟩ ⟨Nat.le_of_ble_eq_true rfl, Nat.le_of_ble_eq_true rfl⟩ 5 rfl rfl (lm_g0 z zo m a h1) (by rw [← eh3]; exact lm_p0 z zo m a h1 τ2) rfl rfl (Nat.le_of_ble_eq_true rfl) dX6_drop_21 (st' := [.int r4, .ref (m 3)]) rfl rfl ?_
  obtain ⟨r6, h5, qh5, hF⟩ := lm_b2e hF
  refine lm_callV C (n := 1) (ci := 1) (w' := (lmW z zo m a h5)) hA (m_X1_commit D z zo l m a h3 r4 r6 h5 qh5) gX6_drop_X1_commit rfl (by decide +kernel) ⟨Nat.le_of_ble_eq_true rfl, Nat.le_of_ble_eq_true rfl⟩ ⟨Nat.le_of_ble_eq_true rfl, Nat.le_of_ble_eq_true rfl⟩ 3 rfl rfl lm_pr lm_pr' rfl rfl (Nat.le_of_ble_eq_true rfl) dX6_drop_24 (st' := [.int r6]) rfl rfl ?_
  cases hF
  exact lm_iret C hr hk rfl rfl dX6_drop_27
def F_X6_change (h : Nat → Hp) (x1 x2 x3 : Int32) : Option (Int32 × (Nat → Hp)) :=
  lm_bd (F_X1_prepare h) fun h1 =>
  lm_b2 (F_X4_rewriteRow (h1 0) x1 x2 x3) fun r4 τ2 =>
  lm_lt (lm_uB h1 0 τ2) fun h3 =>
  lm_b2 (F_X1_commit h3 r4) fun r6 h5 =>
  some (r6, h5)
theorem in6_X6_change : ∀ w ∈ u_ws RX6 TX6 9, w ∈ wsX6_change := by decide +kernel
theorem fl25_X6_change : Cond.fieldLink RX6 25 "LoopMemo" "history" "LLoopMemo$History;" ∈ wsX6_change := by decide +kernel
theorem fl10_X6_change : Cond.fieldLink RX6 10 "LoopMemo" "now" "LLoopMemo$State;" ∈ wsX6_change := by decide +kernel
set_option maxRecDepth 100000 in
set_option maxHeartbeats 4000000 in
theorem m_X6_change (D : va_G) (z zo : ClassId) (l : Launch) (m : Nat → Nat) (a : Nat → Nat → Nat) (h : Nat → Hp) (x1 x2 x3 : Int32) (r : Int32) (h' : Nat → Hp) (hF : F_X6_change h x1 x2 x3 = some (r, h')) : lm_C D z zo l yX6_change wsX6_change 5 125 [.ref (m 0), .int x1, .int x2, .int x3] (lmW z zo m a h) (some (.int r)) (lmW z zo m a h') := by
  refine lm_C.of (by decide) rfl (Nat.le_of_ble_eq_true rfl) (own := RX6) rfl ?_
  intro p e s m_ args below meth c C hr hk hA
  show lm_St p l e ({ frames := 5, cells := 0, slots := 0, locals := 125 }) s m_ args below meth c D (va_A (lmW z zo m a h) s.heap.size) 4 0 0 (lm_End below D (some (.int r)) (lmW z zo m a h) (lmW z zo m a h') args s) false (lmW z zo m a h) 0 [(0, .ref (m 0)), (1, .int x1), (2, .int x2), (3, .int x3)] []
  rw [F_X6_change] at hF
  refine lm_aload_n C dX6_change_0 rfl 0 rfl rfl ?_
  refine lm_getf C (T := TX6) (N := 9) (v := .ref (m 3)) in6_X6_change 0 rfl rfl 3 (by decide) fl25_X6_change rfl rfl dX6_change_1 rfl ?_
  refine lm_aload_n C dX6_change_4 rfl 0 rfl rfl ?_
  refine lm_getf C (T := TX6) (N := 9) (v := .ref (a 0 0)) in6_X6_change 0 rfl rfl 0 (by decide) fl10_X6_change rfl rfl dX6_change_5 rfl ?_
  obtain ⟨h1, qh1, hF⟩ := lm_bde hF
  refine lm_callV C (n := 1) (ci := 1) (w' := (lmW z zo m a h1)) hA (m_X1_prepare D z zo l m a h  h1 qh1) gX6_change_X1_prepare rfl (by decide +kernel) ⟨Nat.le_of_ble_eq_true rfl, Nat.le_of_ble_eq_true rfl⟩ ⟨Nat.le_of_ble_eq_true rfl, Nat.le_of_ble_eq_true rfl⟩ 3 rfl rfl lm_pr lm_pr' rfl rfl (Nat.le_of_ble_eq_true rfl) dX6_change_8 (st' := []) rfl rfl ?_
  refine lm_aload_n C dX6_change_11 rfl 0 rfl rfl ?_
  refine lm_getf C (T := TX6) (N := 9) (v := .ref (m 3)) in6_X6_change 0 rfl rfl 3 (by decide) fl25_X6_change rfl rfl dX6_change_12 rfl ?_
  refine lm_aload_n C dX6_change_15 rfl 0 rfl rfl ?_
  refine lm_getf C (T := TX6) (N := 9) (v := .ref (a 0 0)) in6_X6_change 0 rfl rfl 0 (by decide) fl10_X6_change rfl rfl dX6_change_16 rfl ?_
  refine lm_iload_n C dX6_change_19 rfl 1 rfl rfl ?_
  refine lm_iload_n C dX6_change_20 rfl 2 rfl rfl ?_
  refine lm_iload_n C dX6_change_21 rfl 3 rfl rfl ?_
  obtain ⟨r4, τ2, qτ2, hF⟩ := lm_b2e hF
  obtain ⟨h3, eh3, hF⟩ := lm_lte hF
  refine lm_callV C (n := 3) (ci := 4) (w' := (lmW z zo m a h3)) hA (m_X4_rewriteRow D z zo l (a 0) (h1 0) x1 x2 x3 r4 τ2 qτ2) gX6_change_X4_rewriteRow rfl (by decide +kernel) ⟨Nat.le_of_ble_eq_true rfl, Nat.le_of_ble_eq_true rfl⟩ ⟨Nat.le_of_ble_eq_true rfl, Nat.le_of_ble_eq_true rfl⟩ 5 rfl rfl (lm_g0 z zo m a h1) (by rw [← eh3]; exact lm_p0 z zo m a h1 τ2) rfl rfl (Nat.le_of_ble_eq_true rfl) dX6_change_22 (st' := [.int r4, .ref (m 3)]) rfl rfl ?_
  obtain ⟨r6, h5, qh5, hF⟩ := lm_b2e hF
  refine lm_callV C (n := 1) (ci := 1) (w' := (lmW z zo m a h5)) hA (m_X1_commit D z zo l m a h3 r4 r6 h5 qh5) gX6_change_X1_commit rfl (by decide +kernel) ⟨Nat.le_of_ble_eq_true rfl, Nat.le_of_ble_eq_true rfl⟩ ⟨Nat.le_of_ble_eq_true rfl, Nat.le_of_ble_eq_true rfl⟩ 3 rfl rfl lm_pr lm_pr' rfl rfl (Nat.le_of_ble_eq_true rfl) dX6_change_25 (st' := [.int r6]) rfl rfl ?_
  cases hF
  exact lm_iret C hr hk rfl rfl dX6_change_28
def F_X6_step (h : Nat → Hp) (x1 : Int32) : Option (Int32 × (Nat → Hp)) :=
  lm_bd (F_X1_prepare h) fun h1 =>
  lm_b2 (F_X4_walk (h1 0) x1) fun r4 τ2 =>
  lm_lt (lm_uB h1 0 τ2) fun h3 =>
  lm_b2 (F_X1_commit h3 r4) fun r6 h5 =>
  some (r6, h5)
theorem in6_X6_step : ∀ w ∈ u_ws RX6 TX6 9, w ∈ wsX6_step := by decide +kernel
theorem fl25_X6_step : Cond.fieldLink RX6 25 "LoopMemo" "history" "LLoopMemo$History;" ∈ wsX6_step := by decide +kernel
theorem fl10_X6_step : Cond.fieldLink RX6 10 "LoopMemo" "now" "LLoopMemo$State;" ∈ wsX6_step := by decide +kernel
set_option maxRecDepth 100000 in
set_option maxHeartbeats 4000000 in
theorem m_X6_step (D : va_G) (z zo : ClassId) (l : Launch) (m : Nat → Nat) (a : Nat → Nat → Nat) (h : Nat → Hp) (x1 : Int32) (r : Int32) (h' : Nat → Hp) (hF : F_X6_step h x1 = some (r, h')) : lm_C D z zo l yX6_step wsX6_step 5 125 [.ref (m 0), .int x1] (lmW z zo m a h) (some (.int r)) (lmW z zo m a h') := by
  refine lm_C.of (by decide) rfl (Nat.le_of_ble_eq_true rfl) (own := RX6) rfl ?_
  intro p e s m_ args below meth c C hr hk hA
  show lm_St p l e ({ frames := 5, cells := 0, slots := 0, locals := 125 }) s m_ args below meth c D (va_A (lmW z zo m a h) s.heap.size) 2 0 0 (lm_End below D (some (.int r)) (lmW z zo m a h) (lmW z zo m a h') args s) false (lmW z zo m a h) 0 [(0, .ref (m 0)), (1, .int x1)] []
  rw [F_X6_step] at hF
  refine lm_aload_n C dX6_step_0 rfl 0 rfl rfl ?_
  refine lm_getf C (T := TX6) (N := 9) (v := .ref (m 3)) in6_X6_step 0 rfl rfl 3 (by decide) fl25_X6_step rfl rfl dX6_step_1 rfl ?_
  refine lm_aload_n C dX6_step_4 rfl 0 rfl rfl ?_
  refine lm_getf C (T := TX6) (N := 9) (v := .ref (a 0 0)) in6_X6_step 0 rfl rfl 0 (by decide) fl10_X6_step rfl rfl dX6_step_5 rfl ?_
  obtain ⟨h1, qh1, hF⟩ := lm_bde hF
  refine lm_callV C (n := 1) (ci := 1) (w' := (lmW z zo m a h1)) hA (m_X1_prepare D z zo l m a h  h1 qh1) gX6_step_X1_prepare rfl (by decide +kernel) ⟨Nat.le_of_ble_eq_true rfl, Nat.le_of_ble_eq_true rfl⟩ ⟨Nat.le_of_ble_eq_true rfl, Nat.le_of_ble_eq_true rfl⟩ 3 rfl rfl lm_pr lm_pr' rfl rfl (Nat.le_of_ble_eq_true rfl) dX6_step_8 (st' := []) rfl rfl ?_
  refine lm_aload_n C dX6_step_11 rfl 0 rfl rfl ?_
  refine lm_getf C (T := TX6) (N := 9) (v := .ref (m 3)) in6_X6_step 0 rfl rfl 3 (by decide) fl25_X6_step rfl rfl dX6_step_12 rfl ?_
  refine lm_aload_n C dX6_step_15 rfl 0 rfl rfl ?_
  refine lm_getf C (T := TX6) (N := 9) (v := .ref (a 0 0)) in6_X6_step 0 rfl rfl 0 (by decide) fl10_X6_step rfl rfl dX6_step_16 rfl ?_
  refine lm_iload_n C dX6_step_19 rfl 1 rfl rfl ?_
  obtain ⟨r4, τ2, qτ2, hF⟩ := lm_b2e hF
  obtain ⟨h3, eh3, hF⟩ := lm_lte hF
  refine lm_callV C (n := 1) (ci := 4) (w' := (lmW z zo m a h3)) hA (m_X4_walk D z zo l (a 0) (h1 0) x1 r4 τ2 qτ2) gX6_step_X4_walk rfl (by decide +kernel) ⟨Nat.le_of_ble_eq_true rfl, Nat.le_of_ble_eq_true rfl⟩ ⟨Nat.le_of_ble_eq_true rfl, Nat.le_of_ble_eq_true rfl⟩ 5 rfl rfl (lm_g0 z zo m a h1) (by rw [← eh3]; exact lm_p0 z zo m a h1 τ2) rfl rfl (Nat.le_of_ble_eq_true rfl) dX6_step_20 (st' := [.int r4, .ref (m 3)]) rfl rfl ?_
  obtain ⟨r6, h5, qh5, hF⟩ := lm_b2e hF
  refine lm_callV C (n := 1) (ci := 1) (w' := (lmW z zo m a h5)) hA (m_X1_commit D z zo l m a h3 r4 r6 h5 qh5) gX6_step_X1_commit rfl (by decide +kernel) ⟨Nat.le_of_ble_eq_true rfl, Nat.le_of_ble_eq_true rfl⟩ ⟨Nat.le_of_ble_eq_true rfl, Nat.le_of_ble_eq_true rfl⟩ 3 rfl rfl lm_pr lm_pr' rfl rfl (Nat.le_of_ble_eq_true rfl) dX6_step_23 (st' := [.int r6]) rfl rfl ?_
  cases hF
  exact lm_iret C hr hk rfl rfl dX6_step_26
def F_X6_again (h : Nat → Hp)  : Option (Int32 × (Nat → Hp)) :=
  lm_bd (F_X1_prepare h) fun h1 =>
  lm_b2 (F_X4_beginAgain (h1 0)) fun r4 τ2 =>
  lm_lt (lm_uB h1 0 τ2) fun h3 =>
  lm_b2 (F_X1_commit h3 r4) fun r6 h5 =>
  some (r6, h5)
theorem in6_X6_again : ∀ w ∈ u_ws RX6 TX6 9, w ∈ wsX6_again := by decide +kernel
theorem fl25_X6_again : Cond.fieldLink RX6 25 "LoopMemo" "history" "LLoopMemo$History;" ∈ wsX6_again := by decide +kernel
theorem fl10_X6_again : Cond.fieldLink RX6 10 "LoopMemo" "now" "LLoopMemo$State;" ∈ wsX6_again := by decide +kernel
set_option maxRecDepth 100000 in
set_option maxHeartbeats 4000000 in
theorem m_X6_again (D : va_G) (z zo : ClassId) (l : Launch) (m : Nat → Nat) (a : Nat → Nat → Nat) (h : Nat → Hp)  (r : Int32) (h' : Nat → Hp) (hF : F_X6_again h  = some (r, h')) : lm_C D z zo l yX6_again wsX6_again 5 125 [.ref (m 0)] (lmW z zo m a h) (some (.int r)) (lmW z zo m a h') := by
  refine lm_C.of (by decide) rfl (Nat.le_of_ble_eq_true rfl) (own := RX6) rfl ?_
  intro p e s m_ args below meth c C hr hk hA
  show lm_St p l e ({ frames := 5, cells := 0, slots := 0, locals := 125 }) s m_ args below meth c D (va_A (lmW z zo m a h) s.heap.size) 1 0 0 (lm_End below D (some (.int r)) (lmW z zo m a h) (lmW z zo m a h') args s) false (lmW z zo m a h) 0 [(0, .ref (m 0))] []
  rw [F_X6_again] at hF
  refine lm_aload_n C dX6_again_0 rfl 0 rfl rfl ?_
  refine lm_getf C (T := TX6) (N := 9) (v := .ref (m 3)) in6_X6_again 0 rfl rfl 3 (by decide) fl25_X6_again rfl rfl dX6_again_1 rfl ?_
  refine lm_aload_n C dX6_again_4 rfl 0 rfl rfl ?_
  refine lm_getf C (T := TX6) (N := 9) (v := .ref (a 0 0)) in6_X6_again 0 rfl rfl 0 (by decide) fl10_X6_again rfl rfl dX6_again_5 rfl ?_
  obtain ⟨h1, qh1, hF⟩ := lm_bde hF
  refine lm_callV C (n := 1) (ci := 1) (w' := (lmW z zo m a h1)) hA (m_X1_prepare D z zo l m a h  h1 qh1) gX6_again_X1_prepare rfl (by decide +kernel) ⟨Nat.le_of_ble_eq_true rfl, Nat.le_of_ble_eq_true rfl⟩ ⟨Nat.le_of_ble_eq_true rfl, Nat.le_of_ble_eq_true rfl⟩ 3 rfl rfl lm_pr lm_pr' rfl rfl (Nat.le_of_ble_eq_true rfl) dX6_again_8 (st' := []) rfl rfl ?_
  refine lm_aload_n C dX6_again_11 rfl 0 rfl rfl ?_
  refine lm_getf C (T := TX6) (N := 9) (v := .ref (m 3)) in6_X6_again 0 rfl rfl 3 (by decide) fl25_X6_again rfl rfl dX6_again_12 rfl ?_
  refine lm_aload_n C dX6_again_15 rfl 0 rfl rfl ?_
  refine lm_getf C (T := TX6) (N := 9) (v := .ref (a 0 0)) in6_X6_again 0 rfl rfl 0 (by decide) fl10_X6_again rfl rfl dX6_again_16 rfl ?_
  obtain ⟨r4, τ2, qτ2, hF⟩ := lm_b2e hF
  obtain ⟨h3, eh3, hF⟩ := lm_lte hF
  refine lm_callV C (n := 0) (ci := 4) (w' := (lmW z zo m a h3)) hA (m_X4_beginAgain D z zo l (a 0) (h1 0)  r4 τ2 qτ2) gX6_again_X4_beginAgain rfl (by decide +kernel) ⟨Nat.le_of_ble_eq_true rfl, Nat.le_of_ble_eq_true rfl⟩ ⟨Nat.le_of_ble_eq_true rfl, Nat.le_of_ble_eq_true rfl⟩ 5 rfl rfl (lm_g0 z zo m a h1) (by rw [← eh3]; exact lm_p0 z zo m a h1 τ2) rfl rfl (Nat.le_of_ble_eq_true rfl) dX6_again_19 (st' := [.int r4, .ref (m 3)]) rfl rfl ?_
  obtain ⟨r6, h5, qh5, hF⟩ := lm_b2e hF
  refine lm_callV C (n := 1) (ci := 1) (w' := (lmW z zo m a h5)) hA (m_X1_commit D z zo l m a h3 r4 r6 h5 qh5) gX6_again_X1_commit rfl (by decide +kernel) ⟨Nat.le_of_ble_eq_true rfl, Nat.le_of_ble_eq_true rfl⟩ ⟨Nat.le_of_ble_eq_true rfl, Nat.le_of_ble_eq_true rfl⟩ 3 rfl rfl lm_pr lm_pr' rfl rfl (Nat.le_of_ble_eq_true rfl) dX6_again_22 (st' := [.int r6]) rfl rfl ?_
  cases hF
  exact lm_iret C hr hk rfl rfl dX6_again_25
def F_X6_forget (h : Nat → Hp)  : Option (Int32 × (Nat → Hp)) :=
  lm_bd (F_X1_prepare h) fun h1 =>
  lm_b2 (F_X4_throwAllOut (h1 0)) fun r4 τ2 =>
  lm_lt (lm_uB h1 0 τ2) fun h3 =>
  lm_b2 (F_X1_commit h3 r4) fun r6 h5 =>
  some (r6, h5)
theorem in6_X6_forget : ∀ w ∈ u_ws RX6 TX6 9, w ∈ wsX6_forget := by decide +kernel
theorem fl25_X6_forget : Cond.fieldLink RX6 25 "LoopMemo" "history" "LLoopMemo$History;" ∈ wsX6_forget := by decide +kernel
theorem fl10_X6_forget : Cond.fieldLink RX6 10 "LoopMemo" "now" "LLoopMemo$State;" ∈ wsX6_forget := by decide +kernel
set_option maxRecDepth 100000 in
set_option maxHeartbeats 4000000 in
theorem m_X6_forget (D : va_G) (z zo : ClassId) (l : Launch) (m : Nat → Nat) (a : Nat → Nat → Nat) (h : Nat → Hp)  (r : Int32) (h' : Nat → Hp) (hF : F_X6_forget h  = some (r, h')) : lm_C D z zo l yX6_forget wsX6_forget 5 125 [.ref (m 0)] (lmW z zo m a h) (some (.int r)) (lmW z zo m a h') := by
  refine lm_C.of (by decide) rfl (Nat.le_of_ble_eq_true rfl) (own := RX6) rfl ?_
  intro p e s m_ args below meth c C hr hk hA
  show lm_St p l e ({ frames := 5, cells := 0, slots := 0, locals := 125 }) s m_ args below meth c D (va_A (lmW z zo m a h) s.heap.size) 1 0 0 (lm_End below D (some (.int r)) (lmW z zo m a h) (lmW z zo m a h') args s) false (lmW z zo m a h) 0 [(0, .ref (m 0))] []
  rw [F_X6_forget] at hF
  refine lm_aload_n C dX6_forget_0 rfl 0 rfl rfl ?_
  refine lm_getf C (T := TX6) (N := 9) (v := .ref (m 3)) in6_X6_forget 0 rfl rfl 3 (by decide) fl25_X6_forget rfl rfl dX6_forget_1 rfl ?_
  refine lm_aload_n C dX6_forget_4 rfl 0 rfl rfl ?_
  refine lm_getf C (T := TX6) (N := 9) (v := .ref (a 0 0)) in6_X6_forget 0 rfl rfl 0 (by decide) fl10_X6_forget rfl rfl dX6_forget_5 rfl ?_
  obtain ⟨h1, qh1, hF⟩ := lm_bde hF
  refine lm_callV C (n := 1) (ci := 1) (w' := (lmW z zo m a h1)) hA (m_X1_prepare D z zo l m a h  h1 qh1) gX6_forget_X1_prepare rfl (by decide +kernel) ⟨Nat.le_of_ble_eq_true rfl, Nat.le_of_ble_eq_true rfl⟩ ⟨Nat.le_of_ble_eq_true rfl, Nat.le_of_ble_eq_true rfl⟩ 3 rfl rfl lm_pr lm_pr' rfl rfl (Nat.le_of_ble_eq_true rfl) dX6_forget_8 (st' := []) rfl rfl ?_
  refine lm_aload_n C dX6_forget_11 rfl 0 rfl rfl ?_
  refine lm_getf C (T := TX6) (N := 9) (v := .ref (m 3)) in6_X6_forget 0 rfl rfl 3 (by decide) fl25_X6_forget rfl rfl dX6_forget_12 rfl ?_
  refine lm_aload_n C dX6_forget_15 rfl 0 rfl rfl ?_
  refine lm_getf C (T := TX6) (N := 9) (v := .ref (a 0 0)) in6_X6_forget 0 rfl rfl 0 (by decide) fl10_X6_forget rfl rfl dX6_forget_16 rfl ?_
  obtain ⟨r4, τ2, qτ2, hF⟩ := lm_b2e hF
  obtain ⟨h3, eh3, hF⟩ := lm_lte hF
  refine lm_callV C (n := 0) (ci := 4) (w' := (lmW z zo m a h3)) hA (m_X4_throwAllOut D z zo l (a 0) (h1 0)  r4 τ2 qτ2) gX6_forget_X4_throwAllOut rfl (by decide +kernel) ⟨Nat.le_of_ble_eq_true rfl, Nat.le_of_ble_eq_true rfl⟩ ⟨Nat.le_of_ble_eq_true rfl, Nat.le_of_ble_eq_true rfl⟩ 5 rfl rfl (lm_g0 z zo m a h1) (by rw [← eh3]; exact lm_p0 z zo m a h1 τ2) rfl rfl (Nat.le_of_ble_eq_true rfl) dX6_forget_19 (st' := [.int r4, .ref (m 3)]) rfl rfl ?_
  obtain ⟨r6, h5, qh5, hF⟩ := lm_b2e hF
  refine lm_callV C (n := 1) (ci := 1) (w' := (lmW z zo m a h5)) hA (m_X1_commit D z zo l m a h3 r4 r6 h5 qh5) gX6_forget_X1_commit rfl (by decide +kernel) ⟨Nat.le_of_ble_eq_true rfl, Nat.le_of_ble_eq_true rfl⟩ ⟨Nat.le_of_ble_eq_true rfl, Nat.le_of_ble_eq_true rfl⟩ 3 rfl rfl lm_pr lm_pr' rfl rfl (Nat.le_of_ble_eq_true rfl) dX6_forget_22 (st' := [.int r6]) rfl rfl ?_
  cases hF
  exact lm_iret C hr hk rfl rfl dX6_forget_25
def F_X6_set (h : Nat → Hp) (x1 x2 : Int32) : Option (Int32 × (Nat → Hp)) :=
  lm_bd (F_X1_prepare h) fun h1 =>
  lm_b2 (F_X4_adjust (h1 0) x1 x2) fun r4 τ2 =>
  lm_lt (lm_uB h1 0 τ2) fun h3 =>
  lm_b2 (F_X1_commit h3 r4) fun r6 h5 =>
  some (r6, h5)
theorem in6_X6_set : ∀ w ∈ u_ws RX6 TX6 9, w ∈ wsX6_set := by decide +kernel
theorem fl25_X6_set : Cond.fieldLink RX6 25 "LoopMemo" "history" "LLoopMemo$History;" ∈ wsX6_set := by decide +kernel
theorem fl10_X6_set : Cond.fieldLink RX6 10 "LoopMemo" "now" "LLoopMemo$State;" ∈ wsX6_set := by decide +kernel
set_option maxRecDepth 100000 in
set_option maxHeartbeats 4000000 in
theorem m_X6_set (D : va_G) (z zo : ClassId) (l : Launch) (m : Nat → Nat) (a : Nat → Nat → Nat) (h : Nat → Hp) (x1 x2 : Int32) (r : Int32) (h' : Nat → Hp) (hF : F_X6_set h x1 x2 = some (r, h')) : lm_C D z zo l yX6_set wsX6_set 5 125 [.ref (m 0), .int x1, .int x2] (lmW z zo m a h) (some (.int r)) (lmW z zo m a h') := by
  refine lm_C.of (by decide) rfl (Nat.le_of_ble_eq_true rfl) (own := RX6) rfl ?_
  intro p e s m_ args below meth c C hr hk hA
  show lm_St p l e ({ frames := 5, cells := 0, slots := 0, locals := 125 }) s m_ args below meth c D (va_A (lmW z zo m a h) s.heap.size) 3 0 0 (lm_End below D (some (.int r)) (lmW z zo m a h) (lmW z zo m a h') args s) false (lmW z zo m a h) 0 [(0, .ref (m 0)), (1, .int x1), (2, .int x2)] []
  rw [F_X6_set] at hF
  refine lm_aload_n C dX6_set_0 rfl 0 rfl rfl ?_
  refine lm_getf C (T := TX6) (N := 9) (v := .ref (m 3)) in6_X6_set 0 rfl rfl 3 (by decide) fl25_X6_set rfl rfl dX6_set_1 rfl ?_
  refine lm_aload_n C dX6_set_4 rfl 0 rfl rfl ?_
  refine lm_getf C (T := TX6) (N := 9) (v := .ref (a 0 0)) in6_X6_set 0 rfl rfl 0 (by decide) fl10_X6_set rfl rfl dX6_set_5 rfl ?_
  obtain ⟨h1, qh1, hF⟩ := lm_bde hF
  refine lm_callV C (n := 1) (ci := 1) (w' := (lmW z zo m a h1)) hA (m_X1_prepare D z zo l m a h  h1 qh1) gX6_set_X1_prepare rfl (by decide +kernel) ⟨Nat.le_of_ble_eq_true rfl, Nat.le_of_ble_eq_true rfl⟩ ⟨Nat.le_of_ble_eq_true rfl, Nat.le_of_ble_eq_true rfl⟩ 3 rfl rfl lm_pr lm_pr' rfl rfl (Nat.le_of_ble_eq_true rfl) dX6_set_8 (st' := []) rfl rfl ?_
  refine lm_aload_n C dX6_set_11 rfl 0 rfl rfl ?_
  refine lm_getf C (T := TX6) (N := 9) (v := .ref (m 3)) in6_X6_set 0 rfl rfl 3 (by decide) fl25_X6_set rfl rfl dX6_set_12 rfl ?_
  refine lm_aload_n C dX6_set_15 rfl 0 rfl rfl ?_
  refine lm_getf C (T := TX6) (N := 9) (v := .ref (a 0 0)) in6_X6_set 0 rfl rfl 0 (by decide) fl10_X6_set rfl rfl dX6_set_16 rfl ?_
  refine lm_iload_n C dX6_set_19 rfl 1 rfl rfl ?_
  refine lm_iload_n C dX6_set_20 rfl 2 rfl rfl ?_
  obtain ⟨r4, τ2, qτ2, hF⟩ := lm_b2e hF
  obtain ⟨h3, eh3, hF⟩ := lm_lte hF
  refine lm_callV C (n := 2) (ci := 4) (w' := (lmW z zo m a h3)) hA (m_X4_adjust D z zo l (a 0) (h1 0) x1 x2 r4 τ2 qτ2) gX6_set_X4_adjust rfl (by decide +kernel) ⟨Nat.le_of_ble_eq_true rfl, Nat.le_of_ble_eq_true rfl⟩ ⟨Nat.le_of_ble_eq_true rfl, Nat.le_of_ble_eq_true rfl⟩ 5 rfl rfl (lm_g0 z zo m a h1) (by rw [← eh3]; exact lm_p0 z zo m a h1 τ2) rfl rfl (Nat.le_of_ble_eq_true rfl) dX6_set_21 (st' := [.int r4, .ref (m 3)]) rfl rfl ?_
  obtain ⟨r6, h5, qh5, hF⟩ := lm_b2e hF
  refine lm_callV C (n := 1) (ci := 1) (w' := (lmW z zo m a h5)) hA (m_X1_commit D z zo l m a h3 r4 r6 h5 qh5) gX6_set_X1_commit rfl (by decide +kernel) ⟨Nat.le_of_ble_eq_true rfl, Nat.le_of_ble_eq_true rfl⟩ ⟨Nat.le_of_ble_eq_true rfl, Nat.le_of_ble_eq_true rfl⟩ 3 rfl rfl lm_pr lm_pr' rfl rfl (Nat.le_of_ble_eq_true rfl) dX6_set_24 (st' := [.int r6]) rfl rfl ?_
  cases hF
  exact lm_iret C hr hk rfl rfl dX6_set_27
def F_X6_row (h : Nat → Hp) (x1 x2 x3 : Int32) : Option Int32 :=
  lm_br (x1 = 0)
   (lm_bd (F_X5_has (lm_sh 1 (h 0)) x2) fun r2 =>
   lm_br (r2 = 0)
    (some (-1 : Int32))
    (lm_bd (F_X6_isWithin x3 (2 : Int32)) fun r4 =>
    lm_br (¬ r4 = 0)
     (lm_br (x3 = (0 : Int32))
      (lm_bd (F_X5_key (lm_sh 1 (h 0)) x2) fun r7 =>
      some r7)
      (lm_br (x3 = (1 : Int32))
       (lm_bd (F_X5_value (lm_sh 1 (h 0)) x2) fun r9 =>
       some r9)
       (lm_bd (F_X4_isDone (h 0) x2) fun r11 =>
       lm_br (r11 = 0)
        (some (0 : Int32))
        (some (1 : Int32)))))
     (some (-1 : Int32))))
   (lm_bd (F_X5_has (lm_sh 4 (h 0)) x2) fun r13 =>
   lm_br (r13 = 0)
    (some (-1 : Int32))
    (lm_bd (F_X6_isWithin x3 (2 : Int32)) fun r15 =>
    lm_br (¬ r15 = 0)
     (lm_br (x3 = (0 : Int32))
      (lm_bd (F_X5_key (lm_sh 4 (h 0)) x2) fun r18 =>
      some r18)
      (lm_br (x3 = (1 : Int32))
       (lm_bd (F_X5_value (lm_sh 4 (h 0)) x2) fun r20 =>
       some r20)
       (lm_bd (F_X4_isInRememberedAnswer (h 0) x2) fun r22 =>
       lm_br (r22 = 0)
        (some (0 : Int32))
        (some (1 : Int32)))))
     (some (-1 : Int32))))
theorem in6_X6_row : ∀ w ∈ u_ws RX6 TX6 9, w ∈ wsX6_row := by decide +kernel
theorem fl10_X6_row : Cond.fieldLink RX6 10 "LoopMemo" "now" "LLoopMemo$State;" ∈ wsX6_row := by decide +kernel
set_option maxRecDepth 100000 in
set_option maxHeartbeats 4000000 in
theorem m_X6_row (D : va_G) (z zo : ClassId) (l : Launch) (m : Nat → Nat) (a : Nat → Nat → Nat) (h : Nat → Hp) (x1 x2 x3 : Int32) (r : Int32)  (hF : F_X6_row h x1 x2 x3 = some r) : lm_CR D z zo l yX6_row wsX6_row 2 42 [.ref (m 0), .int x1, .int x2, .int x3] (lmW z zo m a h) (some (.int r)) := by
  refine lm_CR.of (by decide) rfl (Nat.le_of_ble_eq_true rfl) (own := RX6) rfl ?_
  intro p e s m_ args below meth c C hr hk
  show lm_St p l e ({ frames := 2, cells := 0, slots := 0, locals := 42 }) s m_ args below meth c D (fun _ => False) 5 0 0 (lm_EndR below (some (.int r)) args s) true (lmW z zo m a h) 0 [(0, .ref (m 0)), (1, .int x1), (2, .int x2), (3, .int x3)] []
  rw [F_X6_row] at hF
  refine lm_aload_n C dX6_row_0 rfl 0 rfl rfl ?_
  refine lm_getf C (T := TX6) (N := 9) (v := .ref (a 0 0)) in6_X6_row 0 rfl rfl 0 (by decide) fl10_X6_row rfl rfl dX6_row_1 rfl ?_
  refine lm_iload_n C dX6_row_4 rfl 1 rfl rfl ?_
  rcases Classical.em (x1 = 0) with c1 | c1
  · have hF := lm_brt hF c1
    refine lm_callVR C (n := 1) (ci := 4) (m_X4_table_1 D z zo l (a 0) (h 0) x1 c1) gX6_row_X4_table rfl (by decide +kernel) ⟨Nat.le_of_ble_eq_true rfl, Nat.le_of_ble_eq_true rfl⟩ ⟨Nat.le_of_ble_eq_true rfl, Nat.le_of_ble_eq_true rfl⟩ 5 rfl rfl (lm_s0 z zo m a h) rfl rfl (Nat.le_of_ble_eq_true rfl) dX6_row_5 (st' := [.ref (a 0 1)]) rfl rfl ?_
    refine lm_astore C (lv' := [(0, .ref (m 0)), (1, .int x1), (2, .int x2), (3, .int x3), (4, .ref (a 0 1))]) dX6_row_8 (by decide) rfl [1, 2, 3, 4, 0] rfl rfl ?_
    refine lm_aload C dX6_row_10 4 rfl rfl ?_
    refine lm_iload_n C dX6_row_12 rfl 2 rfl rfl ?_
    obtain ⟨r2, qr2, hF⟩ := lm_bde hF
    refine lm_callVR C (n := 1) (ci := 5) (m_X5_has D z zo l (lm_sh 1 (a 0)) (lm_sh 1 (h 0)) x2 r2 qr2) gX6_row_X5_has rfl (by decide +kernel) ⟨Nat.le_of_ble_eq_true rfl, Nat.le_of_ble_eq_true rfl⟩ ⟨Nat.le_of_ble_eq_true rfl, Nat.le_of_ble_eq_true rfl⟩ 6 rfl rfl (fun q hq => lm_s0 z zo m a h q (st_s1 z (a 0) (h 0) q hq)) rfl rfl (Nat.le_of_ble_eq_true rfl) dX6_row_13 (st' := [.int r2]) rfl rfl ?_
    refine lm_if_eq C (tgt := 27) dX6_row_16 (by decide) rfl (fun c3 => ?_) (fun c3 => ?_)
    · have hF := lm_brt hF c3
      refine lm_iconst C (v := (-1 : Int32)) dX6_row_27 (by decide) rfl ?_
      cases hF
      exact lm_iretR C hr hk rfl dX6_row_28
    · have hF := lm_brf hF c3
      refine lm_iload_n C dX6_row_19 rfl 3 rfl rfl ?_
      refine lm_iconst C (v := (2 : Int32)) dX6_row_20 (by decide) rfl ?_
      obtain ⟨r4, qr4, hF⟩ := lm_bde hF
      refine lm_callSR C (n := 2) (m_X6_isWithin D z zo l   x3 (2 : Int32) r4 qr4) gX6_row_X6_isWithin rfl (by decide +kernel) ⟨Nat.le_of_ble_eq_true rfl, Nat.le_of_ble_eq_true rfl⟩ ⟨Nat.le_of_ble_eq_true rfl, Nat.le_of_ble_eq_true rfl⟩ (fun _ h => absurd h List.not_mem_nil) rfl rfl (Nat.le_of_ble_eq_true rfl) dX6_row_21 (st' := [.int r4]) rfl rfl ?_
      refine lm_if_ne C (tgt := 29) dX6_row_24 (by decide) rfl (fun c5 => ?_) (fun c5 => ?_)
      · have hF := lm_brt hF c5
        refine lm_iload_n C dX6_row_29 rfl 3 rfl rfl ?_
        rcases Classical.em (x3 = (0 : Int32)) with c6 | c6
        · have hF := lm_brt hF c6
          refine lm_lookup C (off := 26) (tgt := 56) dX6_row_30 (by decide) (by rw [c6]; decide) (by decide) ?_
          refine lm_aload C dX6_row_56 4 rfl rfl ?_
          refine lm_iload_n C dX6_row_58 rfl 2 rfl rfl ?_
          obtain ⟨r7, qr7, hF⟩ := lm_bde hF
          refine lm_callVR C (n := 1) (ci := 5) (m_X5_key D z zo l (lm_sh 1 (a 0)) (lm_sh 1 (h 0)) x2 r7 qr7) gX6_row_X5_key rfl (by decide +kernel) ⟨Nat.le_of_ble_eq_true rfl, Nat.le_of_ble_eq_true rfl⟩ ⟨Nat.le_of_ble_eq_true rfl, Nat.le_of_ble_eq_true rfl⟩ 6 rfl rfl (fun q hq => lm_s0 z zo m a h q (st_s1 z (a 0) (h 0) q hq)) rfl rfl (Nat.le_of_ble_eq_true rfl) dX6_row_59 (st' := [.int r7]) rfl rfl ?_
          cases hF
          exact lm_iretR C hr hk rfl dX6_row_62
        · have hF := lm_brf hF c6
          rcases Classical.em (x3 = (1 : Int32)) with c8 | c8
          · have hF := lm_brt hF c8
            refine lm_lookup C (off := 33) (tgt := 63) dX6_row_30 (by decide) (by rw [c8]; decide) (by decide) ?_
            refine lm_aload C dX6_row_63 4 rfl rfl ?_
            refine lm_iload_n C dX6_row_65 rfl 2 rfl rfl ?_
            obtain ⟨r9, qr9, hF⟩ := lm_bde hF
            refine lm_callVR C (n := 1) (ci := 5) (m_X5_value D z zo l (lm_sh 1 (a 0)) (lm_sh 1 (h 0)) x2 r9 qr9) gX6_row_X5_value rfl (by decide +kernel) ⟨Nat.le_of_ble_eq_true rfl, Nat.le_of_ble_eq_true rfl⟩ ⟨Nat.le_of_ble_eq_true rfl, Nat.le_of_ble_eq_true rfl⟩ 6 rfl rfl (fun q hq => lm_s0 z zo m a h q (st_s1 z (a 0) (h 0) q hq)) rfl rfl (Nat.le_of_ble_eq_true rfl) dX6_row_66 (st' := [.int r9]) rfl rfl ?_
            cases hF
            exact lm_iretR C hr hk rfl dX6_row_69
          · have hF := lm_brf hF c8
            refine lm_lookup C (off := 40) (tgt := 70) dX6_row_30 (by decide) (by rw [lv_osw c6 (by decide)]; rw [lv_osw c8 (by decide)]; rfl) (by decide) ?_
            refine lm_iload_n C dX6_row_70 rfl 1 rfl rfl ?_
            refine lm_if_eq C (tgt := 88) dX6_row_71 (by decide) rfl (fun c10 => ?_) (fun c10 => ?_)
            · refine lm_aload_n C dX6_row_88 rfl 0 rfl rfl ?_
              refine lm_getf C (T := TX6) (N := 9) (v := .ref (a 0 0)) in6_X6_row 0 rfl rfl 0 (by decide) fl10_X6_row rfl rfl dX6_row_89 rfl ?_
              refine lm_iload_n C dX6_row_92 rfl 2 rfl rfl ?_
              obtain ⟨r11, qr11, hF⟩ := lm_bde hF
              refine lm_callVR C (n := 1) (ci := 4) (m_X4_isDone D z zo l (a 0) (h 0) x2 r11 qr11) gX6_row_X4_isDone rfl (by decide +kernel) ⟨Nat.le_of_ble_eq_true rfl, Nat.le_of_ble_eq_true rfl⟩ ⟨Nat.le_of_ble_eq_true rfl, Nat.le_of_ble_eq_true rfl⟩ 5 rfl rfl (lm_s0 z zo m a h) rfl rfl (Nat.le_of_ble_eq_true rfl) dX6_row_93 (st' := [.int r11]) rfl rfl ?_
              refine lm_if_eq C (tgt := 103) dX6_row_96 (by decide) rfl (fun c12 => ?_) (fun c12 => ?_)
              · have hF := lm_brt hF c12
                refine lm_iconst C (v := (0 : Int32)) dX6_row_103 (by decide) rfl ?_
                cases hF
                exact lm_iretR C hr hk rfl dX6_row_104
              · have hF := lm_brf hF c12
                refine lm_iconst C (v := (1 : Int32)) dX6_row_99 (by decide) rfl ?_
                refine lm_goto C (tgt := 104) dX6_row_100 (by decide) ?_
                cases hF
                exact lm_iretR C hr hk rfl dX6_row_104
            · exact (by simp_all : False).elim
      · have hF := lm_brf hF c5
        refine lm_iconst C (v := (-1 : Int32)) dX6_row_27 (by decide) rfl ?_
        cases hF
        exact lm_iretR C hr hk rfl dX6_row_28
  · have hF := lm_brf hF c1
    refine lm_callVR C (n := 1) (ci := 4) (m_X4_table_2 D z zo l (a 0) (h 0) x1 c1) gX6_row_X4_table rfl (by decide +kernel) ⟨Nat.le_of_ble_eq_true rfl, Nat.le_of_ble_eq_true rfl⟩ ⟨Nat.le_of_ble_eq_true rfl, Nat.le_of_ble_eq_true rfl⟩ 5 rfl rfl (lm_s0 z zo m a h) rfl rfl (Nat.le_of_ble_eq_true rfl) dX6_row_5 (st' := [.ref (a 0 4)]) rfl rfl ?_
    refine lm_astore C (lv' := [(0, .ref (m 0)), (1, .int x1), (2, .int x2), (3, .int x3), (4, .ref (a 0 4))]) dX6_row_8 (by decide) rfl [1, 2, 3, 4, 0] rfl rfl ?_
    refine lm_aload C dX6_row_10 4 rfl rfl ?_
    refine lm_iload_n C dX6_row_12 rfl 2 rfl rfl ?_
    obtain ⟨r13, qr13, hF⟩ := lm_bde hF
    refine lm_callVR C (n := 1) (ci := 5) (m_X5_has D z zo l (lm_sh 4 (a 0)) (lm_sh 4 (h 0)) x2 r13 qr13) gX6_row_X5_has rfl (by decide +kernel) ⟨Nat.le_of_ble_eq_true rfl, Nat.le_of_ble_eq_true rfl⟩ ⟨Nat.le_of_ble_eq_true rfl, Nat.le_of_ble_eq_true rfl⟩ 9 rfl rfl (fun q hq => lm_s0 z zo m a h q (st_s4 z (a 0) (h 0) q hq)) rfl rfl (Nat.le_of_ble_eq_true rfl) dX6_row_13 (st' := [.int r13]) rfl rfl ?_
    refine lm_if_eq C (tgt := 27) dX6_row_16 (by decide) rfl (fun c14 => ?_) (fun c14 => ?_)
    · have hF := lm_brt hF c14
      refine lm_iconst C (v := (-1 : Int32)) dX6_row_27 (by decide) rfl ?_
      cases hF
      exact lm_iretR C hr hk rfl dX6_row_28
    · have hF := lm_brf hF c14
      refine lm_iload_n C dX6_row_19 rfl 3 rfl rfl ?_
      refine lm_iconst C (v := (2 : Int32)) dX6_row_20 (by decide) rfl ?_
      obtain ⟨r15, qr15, hF⟩ := lm_bde hF
      refine lm_callSR C (n := 2) (m_X6_isWithin D z zo l   x3 (2 : Int32) r15 qr15) gX6_row_X6_isWithin rfl (by decide +kernel) ⟨Nat.le_of_ble_eq_true rfl, Nat.le_of_ble_eq_true rfl⟩ ⟨Nat.le_of_ble_eq_true rfl, Nat.le_of_ble_eq_true rfl⟩ (fun _ h => absurd h List.not_mem_nil) rfl rfl (Nat.le_of_ble_eq_true rfl) dX6_row_21 (st' := [.int r15]) rfl rfl ?_
      refine lm_if_ne C (tgt := 29) dX6_row_24 (by decide) rfl (fun c16 => ?_) (fun c16 => ?_)
      · have hF := lm_brt hF c16
        refine lm_iload_n C dX6_row_29 rfl 3 rfl rfl ?_
        rcases Classical.em (x3 = (0 : Int32)) with c17 | c17
        · have hF := lm_brt hF c17
          refine lm_lookup C (off := 26) (tgt := 56) dX6_row_30 (by decide) (by rw [c17]; decide) (by decide) ?_
          refine lm_aload C dX6_row_56 4 rfl rfl ?_
          refine lm_iload_n C dX6_row_58 rfl 2 rfl rfl ?_
          obtain ⟨r18, qr18, hF⟩ := lm_bde hF
          refine lm_callVR C (n := 1) (ci := 5) (m_X5_key D z zo l (lm_sh 4 (a 0)) (lm_sh 4 (h 0)) x2 r18 qr18) gX6_row_X5_key rfl (by decide +kernel) ⟨Nat.le_of_ble_eq_true rfl, Nat.le_of_ble_eq_true rfl⟩ ⟨Nat.le_of_ble_eq_true rfl, Nat.le_of_ble_eq_true rfl⟩ 9 rfl rfl (fun q hq => lm_s0 z zo m a h q (st_s4 z (a 0) (h 0) q hq)) rfl rfl (Nat.le_of_ble_eq_true rfl) dX6_row_59 (st' := [.int r18]) rfl rfl ?_
          cases hF
          exact lm_iretR C hr hk rfl dX6_row_62
        · have hF := lm_brf hF c17
          rcases Classical.em (x3 = (1 : Int32)) with c19 | c19
          · have hF := lm_brt hF c19
            refine lm_lookup C (off := 33) (tgt := 63) dX6_row_30 (by decide) (by rw [c19]; decide) (by decide) ?_
            refine lm_aload C dX6_row_63 4 rfl rfl ?_
            refine lm_iload_n C dX6_row_65 rfl 2 rfl rfl ?_
            obtain ⟨r20, qr20, hF⟩ := lm_bde hF
            refine lm_callVR C (n := 1) (ci := 5) (m_X5_value D z zo l (lm_sh 4 (a 0)) (lm_sh 4 (h 0)) x2 r20 qr20) gX6_row_X5_value rfl (by decide +kernel) ⟨Nat.le_of_ble_eq_true rfl, Nat.le_of_ble_eq_true rfl⟩ ⟨Nat.le_of_ble_eq_true rfl, Nat.le_of_ble_eq_true rfl⟩ 9 rfl rfl (fun q hq => lm_s0 z zo m a h q (st_s4 z (a 0) (h 0) q hq)) rfl rfl (Nat.le_of_ble_eq_true rfl) dX6_row_66 (st' := [.int r20]) rfl rfl ?_
            cases hF
            exact lm_iretR C hr hk rfl dX6_row_69
          · have hF := lm_brf hF c19
            refine lm_lookup C (off := 40) (tgt := 70) dX6_row_30 (by decide) (by rw [lv_osw c17 (by decide)]; rw [lv_osw c19 (by decide)]; rfl) (by decide) ?_
            refine lm_iload_n C dX6_row_70 rfl 1 rfl rfl ?_
            refine lm_if_eq C (tgt := 88) dX6_row_71 (by decide) rfl (fun c21 => ?_) (fun c21 => ?_)
            · exact (by simp_all : False).elim
            · refine lm_aload_n C dX6_row_74 rfl 0 rfl rfl ?_
              refine lm_getf C (T := TX6) (N := 9) (v := .ref (a 0 0)) in6_X6_row 0 rfl rfl 0 (by decide) fl10_X6_row rfl rfl dX6_row_75 rfl ?_
              refine lm_iload_n C dX6_row_78 rfl 2 rfl rfl ?_
              obtain ⟨r22, qr22, hF⟩ := lm_bde hF
              refine lm_callVR C (n := 1) (ci := 4) (m_X4_isInRememberedAnswer D z zo l (a 0) (h 0) x2 r22 qr22) gX6_row_X4_isInRememberedAnswer rfl (by decide +kernel) ⟨Nat.le_of_ble_eq_true rfl, Nat.le_of_ble_eq_true rfl⟩ ⟨Nat.le_of_ble_eq_true rfl, Nat.le_of_ble_eq_true rfl⟩ 5 rfl rfl (lm_s0 z zo m a h) rfl rfl (Nat.le_of_ble_eq_true rfl) dX6_row_79 (st' := [.int r22]) rfl rfl ?_
              refine lm_if_eq C (tgt := 103) dX6_row_82 (by decide) rfl (fun c23 => ?_) (fun c23 => ?_)
              · have hF := lm_brt hF c23
                refine lm_iconst C (v := (0 : Int32)) dX6_row_103 (by decide) rfl ?_
                cases hF
                exact lm_iretR C hr hk rfl dX6_row_104
              · have hF := lm_brf hF c23
                refine lm_goto C (tgt := 99) dX6_row_85 (by decide) ?_
                refine lm_iconst C (v := (1 : Int32)) dX6_row_99 (by decide) rfl ?_
                refine lm_goto C (tgt := 104) dX6_row_100 (by decide) ?_
                cases hF
                exact lm_iretR C hr hk rfl dX6_row_104
      · have hF := lm_brf hF c16
        refine lm_iconst C (v := (-1 : Int32)) dX6_row_27 (by decide) rfl ?_
        cases hF
        exact lm_iretR C hr hk rfl dX6_row_28
def F_X6_answer (h : Nat → Hp) (x1 x2 : Int32) : Option Int32 :=
  lm_bd (F_X6_isKey x1) fun r1 =>
  lm_br (r1 = 0)
   (some (-1 : Int32))
   (lm_bd (F_X6_isWithin x2 (3 : Int32)) fun r3 =>
   lm_br (r3 = 0)
    (some (-1 : Int32))
    (lm_bd (F_X0_tell (lm_sh 7 (h 0)) x1 x2) fun r5 =>
    some r5))
theorem in6_X6_answer : ∀ w ∈ u_ws RX6 TX6 9, w ∈ wsX6_answer := by decide +kernel
theorem fl10_X6_answer : Cond.fieldLink RX6 10 "LoopMemo" "now" "LLoopMemo$State;" ∈ wsX6_answer := by decide +kernel
set_option maxRecDepth 100000 in
set_option maxHeartbeats 4000000 in
theorem m_X6_answer (D : va_G) (z zo : ClassId) (l : Launch) (m : Nat → Nat) (a : Nat → Nat → Nat) (h : Nat → Hp) (x1 x2 : Int32) (r : Int32)  (hF : F_X6_answer h x1 x2 = some r) : lm_CR D z zo l yX6_answer wsX6_answer 2 43 [.ref (m 0), .int x1, .int x2] (lmW z zo m a h) (some (.int r)) := by
  refine lm_CR.of (by decide) rfl (Nat.le_of_ble_eq_true rfl) (own := RX6) rfl ?_
  intro p e s m_ args below meth c C hr hk
  show lm_St p l e ({ frames := 2, cells := 0, slots := 0, locals := 43 }) s m_ args below meth c D (fun _ => False) 3 0 0 (lm_EndR below (some (.int r)) args s) true (lmW z zo m a h) 0 [(0, .ref (m 0)), (1, .int x1), (2, .int x2)] []
  rw [F_X6_answer] at hF
  refine lm_iload_n C dX6_answer_0 rfl 1 rfl rfl ?_
  obtain ⟨r1, qr1, hF⟩ := lm_bde hF
  refine lm_callSR C (n := 1) (m_X6_isKey D z zo l   x1 r1 qr1) gX6_answer_X6_isKey rfl (by decide +kernel) ⟨Nat.le_of_ble_eq_true rfl, Nat.le_of_ble_eq_true rfl⟩ ⟨Nat.le_of_ble_eq_true rfl, Nat.le_of_ble_eq_true rfl⟩ (fun _ h => absurd h List.not_mem_nil) rfl rfl (Nat.le_of_ble_eq_true rfl) dX6_answer_1 (st' := [.int r1]) rfl rfl ?_
  refine lm_if_eq C (tgt := 30) dX6_answer_4 (by decide) rfl (fun c2 => ?_) (fun c2 => ?_)
  · have hF := lm_brt hF c2
    refine lm_iconst C (v := (-1 : Int32)) dX6_answer_30 (by decide) rfl ?_
    cases hF
    exact lm_iretR C hr hk rfl dX6_answer_31
  · have hF := lm_brf hF c2
    refine lm_iload_n C dX6_answer_7 rfl 2 rfl rfl ?_
    refine lm_iconst C (v := (3 : Int32)) dX6_answer_8 (by decide) rfl ?_
    obtain ⟨r3, qr3, hF⟩ := lm_bde hF
    refine lm_callSR C (n := 2) (m_X6_isWithin D z zo l   x2 (3 : Int32) r3 qr3) gX6_answer_X6_isWithin rfl (by decide +kernel) ⟨Nat.le_of_ble_eq_true rfl, Nat.le_of_ble_eq_true rfl⟩ ⟨Nat.le_of_ble_eq_true rfl, Nat.le_of_ble_eq_true rfl⟩ (fun _ h => absurd h List.not_mem_nil) rfl rfl (Nat.le_of_ble_eq_true rfl) dX6_answer_9 (st' := [.int r3]) rfl rfl ?_
    refine lm_if_eq C (tgt := 30) dX6_answer_12 (by decide) rfl (fun c4 => ?_) (fun c4 => ?_)
    · have hF := lm_brt hF c4
      refine lm_iconst C (v := (-1 : Int32)) dX6_answer_30 (by decide) rfl ?_
      cases hF
      exact lm_iretR C hr hk rfl dX6_answer_31
    · have hF := lm_brf hF c4
      refine lm_aload_n C dX6_answer_15 rfl 0 rfl rfl ?_
      refine lm_getf C (T := TX6) (N := 9) (v := .ref (a 0 0)) in6_X6_answer 0 rfl rfl 0 (by decide) fl10_X6_answer rfl rfl dX6_answer_16 rfl ?_
      refine lm_callVR C (n := 0) (ci := 4) (m_X4_answers_1 D z zo l (a 0) (h 0)  ) gX6_answer_X4_answers rfl (by decide +kernel) ⟨Nat.le_of_ble_eq_true rfl, Nat.le_of_ble_eq_true rfl⟩ ⟨Nat.le_of_ble_eq_true rfl, Nat.le_of_ble_eq_true rfl⟩ 5 rfl rfl (lm_s0 z zo m a h) rfl rfl (Nat.le_of_ble_eq_true rfl) dX6_answer_19 (st' := [.ref (a 0 7)]) rfl rfl ?_
      refine lm_iload_n C dX6_answer_22 rfl 1 rfl rfl ?_
      refine lm_iload_n C dX6_answer_23 rfl 2 rfl rfl ?_
      obtain ⟨r5, qr5, hF⟩ := lm_bde hF
      refine lm_callVR C (n := 2) (ci := 0) (m_X0_tell D z zo l (lm_sh 7 (a 0)) (lm_sh 7 (h 0)) x1 x2 r5 qr5) gX6_answer_X0_tell rfl (by decide +kernel) ⟨Nat.le_of_ble_eq_true rfl, Nat.le_of_ble_eq_true rfl⟩ ⟨Nat.le_of_ble_eq_true rfl, Nat.le_of_ble_eq_true rfl⟩ 12 rfl rfl (fun q hq => lm_s0 z zo m a h q (st_s7 z (a 0) (h 0) q hq)) rfl rfl (Nat.le_of_ble_eq_true rfl) dX6_answer_24 (st' := [.int r5]) rfl rfl ?_
      refine lm_goto C (tgt := 31) dX6_answer_27 (by decide) ?_
      cases hF
      exact lm_iretR C hr hk rfl dX6_answer_31
def F_X6_remembered (h : Nat → Hp) (x1 x2 : Int32) : Option Int32 :=
  lm_bd (F_X6_isKey x1) fun r1 =>
  lm_br (r1 = 0)
   (some (-1 : Int32))
   (lm_bd (F_X6_isWithin x2 (5 : Int32)) fun r3 =>
   lm_br (¬ r3 = 0)
    (lm_bd (F_X2_holds (lm_sh 11 (h 0)) x1) fun r5 =>
    lm_br (¬ r5 = 0)
     (lm_br (x2 = (4 : Int32))
      (lm_bd (F_X2_uses (lm_sh 11 (h 0)) x1) fun r8 =>
      some r8)
      (lm_br (x2 = (5 : Int32))
       (lm_bd (F_X4_setting (h 0) (1 : Int32)) fun r10 =>
       lm_bd (F_X2_placeOf (lm_sh 11 (h 0)) x1 r10) fun r11 =>
       some r11)
       (lm_bd (F_X0_tell (lm_sh 7 (h 0)) x1 x2) fun r12 =>
       some r12)))
     (some (-4 : Int32)))
    (some (-1 : Int32)))
theorem in6_X6_remembered : ∀ w ∈ u_ws RX6 TX6 9, w ∈ wsX6_remembered := by decide +kernel
theorem fl10_X6_remembered : Cond.fieldLink RX6 10 "LoopMemo" "now" "LLoopMemo$State;" ∈ wsX6_remembered := by decide +kernel
set_option maxRecDepth 100000 in
set_option maxHeartbeats 4000000 in
theorem m_X6_remembered (D : va_G) (z zo : ClassId) (l : Launch) (m : Nat → Nat) (a : Nat → Nat → Nat) (h : Nat → Hp) (x1 x2 : Int32) (r : Int32)  (hF : F_X6_remembered h x1 x2 = some r) : lm_CR D z zo l yX6_remembered wsX6_remembered 2 46 [.ref (m 0), .int x1, .int x2] (lmW z zo m a h) (some (.int r)) := by
  refine lm_CR.of (by decide) rfl (Nat.le_of_ble_eq_true rfl) (own := RX6) rfl ?_
  intro p e s m_ args below meth c C hr hk
  show lm_St p l e ({ frames := 2, cells := 0, slots := 0, locals := 46 }) s m_ args below meth c D (fun _ => False) 3 0 0 (lm_EndR below (some (.int r)) args s) true (lmW z zo m a h) 0 [(0, .ref (m 0)), (1, .int x1), (2, .int x2)] []
  rw [F_X6_remembered] at hF
  refine lm_iload_n C dX6_remembered_0 rfl 1 rfl rfl ?_
  obtain ⟨r1, qr1, hF⟩ := lm_bde hF
  refine lm_callSR C (n := 1) (m_X6_isKey D z zo l   x1 r1 qr1) gX6_remembered_X6_isKey rfl (by decide +kernel) ⟨Nat.le_of_ble_eq_true rfl, Nat.le_of_ble_eq_true rfl⟩ ⟨Nat.le_of_ble_eq_true rfl, Nat.le_of_ble_eq_true rfl⟩ (fun _ h => absurd h List.not_mem_nil) rfl rfl (Nat.le_of_ble_eq_true rfl) dX6_remembered_1 (st' := [.int r1]) rfl rfl ?_
  refine lm_if_eq C (tgt := 15) dX6_remembered_4 (by decide) rfl (fun c2 => ?_) (fun c2 => ?_)
  · have hF := lm_brt hF c2
    refine lm_iconst C (v := (-1 : Int32)) dX6_remembered_15 (by decide) rfl ?_
    cases hF
    exact lm_iretR C hr hk rfl dX6_remembered_16
  · have hF := lm_brf hF c2
    refine lm_iload_n C dX6_remembered_7 rfl 2 rfl rfl ?_
    refine lm_iconst C (v := (5 : Int32)) dX6_remembered_8 (by decide) rfl ?_
    obtain ⟨r3, qr3, hF⟩ := lm_bde hF
    refine lm_callSR C (n := 2) (m_X6_isWithin D z zo l   x2 (5 : Int32) r3 qr3) gX6_remembered_X6_isWithin rfl (by decide +kernel) ⟨Nat.le_of_ble_eq_true rfl, Nat.le_of_ble_eq_true rfl⟩ ⟨Nat.le_of_ble_eq_true rfl, Nat.le_of_ble_eq_true rfl⟩ (fun _ h => absurd h List.not_mem_nil) rfl rfl (Nat.le_of_ble_eq_true rfl) dX6_remembered_9 (st' := [.int r3]) rfl rfl ?_
    refine lm_if_ne C (tgt := 17) dX6_remembered_12 (by decide) rfl (fun c4 => ?_) (fun c4 => ?_)
    · have hF := lm_brt hF c4
      refine lm_aload_n C dX6_remembered_17 rfl 0 rfl rfl ?_
      refine lm_getf C (T := TX6) (N := 9) (v := .ref (a 0 0)) in6_X6_remembered 0 rfl rfl 0 (by decide) fl10_X6_remembered rfl rfl dX6_remembered_18 rfl ?_
      refine lm_callVR C (n := 0) (ci := 4) (m_X4_memo_1 D z zo l (a 0) (h 0)  ) gX6_remembered_X4_memo rfl (by decide +kernel) ⟨Nat.le_of_ble_eq_true rfl, Nat.le_of_ble_eq_true rfl⟩ ⟨Nat.le_of_ble_eq_true rfl, Nat.le_of_ble_eq_true rfl⟩ 5 rfl rfl (lm_s0 z zo m a h) rfl rfl (Nat.le_of_ble_eq_true rfl) dX6_remembered_21 (st' := [.ref (a 0 11)]) rfl rfl ?_
      refine lm_iload_n C dX6_remembered_24 rfl 1 rfl rfl ?_
      obtain ⟨r5, qr5, hF⟩ := lm_bde hF
      refine lm_callVR C (n := 1) (ci := 2) (m_X2_holds D z zo l (lm_sh 11 (a 0)) (lm_sh 11 (h 0)) x1 r5 qr5) gX6_remembered_X2_holds rfl (by decide +kernel) ⟨Nat.le_of_ble_eq_true rfl, Nat.le_of_ble_eq_true rfl⟩ ⟨Nat.le_of_ble_eq_true rfl, Nat.le_of_ble_eq_true rfl⟩ 16 rfl rfl (fun q hq => lm_s0 z zo m a h q (st_s11 z (a 0) (h 0) q hq)) rfl rfl (Nat.le_of_ble_eq_true rfl) dX6_remembered_25 (st' := [.int r5]) rfl rfl ?_
      refine lm_if_ne C (tgt := 34) dX6_remembered_28 (by decide) rfl (fun c6 => ?_) (fun c6 => ?_)
      · have hF := lm_brt hF c6
        refine lm_iload_n C dX6_remembered_34 rfl 2 rfl rfl ?_
        rcases Classical.em (x2 = (4 : Int32)) with c7 | c7
        · have hF := lm_brt hF c7
          refine lm_lookup C (off := 25) (tgt := 60) dX6_remembered_35 (by decide) (by rw [c7]; decide) (by decide) ?_
          refine lm_aload_n C dX6_remembered_60 rfl 0 rfl rfl ?_
          refine lm_getf C (T := TX6) (N := 9) (v := .ref (a 0 0)) in6_X6_remembered 0 rfl rfl 0 (by decide) fl10_X6_remembered rfl rfl dX6_remembered_61 rfl ?_
          refine lm_callVR C (n := 0) (ci := 4) (m_X4_memo_1 D z zo l (a 0) (h 0)  ) gX6_remembered_X4_memo rfl (by decide +kernel) ⟨Nat.le_of_ble_eq_true rfl, Nat.le_of_ble_eq_true rfl⟩ ⟨Nat.le_of_ble_eq_true rfl, Nat.le_of_ble_eq_true rfl⟩ 5 rfl rfl (lm_s0 z zo m a h) rfl rfl (Nat.le_of_ble_eq_true rfl) dX6_remembered_64 (st' := [.ref (a 0 11)]) rfl rfl ?_
          refine lm_iload_n C dX6_remembered_67 rfl 1 rfl rfl ?_
          obtain ⟨r8, qr8, hF⟩ := lm_bde hF
          refine lm_callVR C (n := 1) (ci := 2) (m_X2_uses D z zo l (lm_sh 11 (a 0)) (lm_sh 11 (h 0)) x1 r8 qr8) gX6_remembered_X2_uses rfl (by decide +kernel) ⟨Nat.le_of_ble_eq_true rfl, Nat.le_of_ble_eq_true rfl⟩ ⟨Nat.le_of_ble_eq_true rfl, Nat.le_of_ble_eq_true rfl⟩ 16 rfl rfl (fun q hq => lm_s0 z zo m a h q (st_s11 z (a 0) (h 0) q hq)) rfl rfl (Nat.le_of_ble_eq_true rfl) dX6_remembered_68 (st' := [.int r8]) rfl rfl ?_
          cases hF
          exact lm_iretR C hr hk rfl dX6_remembered_71
        · have hF := lm_brf hF c7
          rcases Classical.em (x2 = (5 : Int32)) with c9 | c9
          · have hF := lm_brt hF c9
            refine lm_lookup C (off := 37) (tgt := 72) dX6_remembered_35 (by decide) (by rw [c9]; decide) (by decide) ?_
            refine lm_aload_n C dX6_remembered_72 rfl 0 rfl rfl ?_
            refine lm_getf C (T := TX6) (N := 9) (v := .ref (a 0 0)) in6_X6_remembered 0 rfl rfl 0 (by decide) fl10_X6_remembered rfl rfl dX6_remembered_73 rfl ?_
            refine lm_callVR C (n := 0) (ci := 4) (m_X4_memo_1 D z zo l (a 0) (h 0)  ) gX6_remembered_X4_memo rfl (by decide +kernel) ⟨Nat.le_of_ble_eq_true rfl, Nat.le_of_ble_eq_true rfl⟩ ⟨Nat.le_of_ble_eq_true rfl, Nat.le_of_ble_eq_true rfl⟩ 5 rfl rfl (lm_s0 z zo m a h) rfl rfl (Nat.le_of_ble_eq_true rfl) dX6_remembered_76 (st' := [.ref (a 0 11)]) rfl rfl ?_
            refine lm_iload_n C dX6_remembered_79 rfl 1 rfl rfl ?_
            refine lm_aload_n C dX6_remembered_80 rfl 0 rfl rfl ?_
            refine lm_getf C (T := TX6) (N := 9) (v := .ref (a 0 0)) in6_X6_remembered 0 rfl rfl 0 (by decide) fl10_X6_remembered rfl rfl dX6_remembered_81 rfl ?_
            refine lm_iconst C (v := (1 : Int32)) dX6_remembered_84 (by decide) rfl ?_
            obtain ⟨r10, qr10, hF⟩ := lm_bde hF
            refine lm_callVR C (n := 1) (ci := 4) (m_X4_setting D z zo l (a 0) (h 0) (1 : Int32) r10 qr10) gX6_remembered_X4_setting rfl (by decide +kernel) ⟨Nat.le_of_ble_eq_true rfl, Nat.le_of_ble_eq_true rfl⟩ ⟨Nat.le_of_ble_eq_true rfl, Nat.le_of_ble_eq_true rfl⟩ 5 rfl rfl (lm_s0 z zo m a h) rfl rfl (Nat.le_of_ble_eq_true rfl) dX6_remembered_85 (st' := [.int r10, .int x1, .ref (a 0 11)]) rfl rfl ?_
            obtain ⟨r11, qr11, hF⟩ := lm_bde hF
            refine lm_callVR C (n := 2) (ci := 2) (m_X2_placeOf D z zo l (lm_sh 11 (a 0)) (lm_sh 11 (h 0)) x1 r10 r11 qr11) gX6_remembered_X2_placeOf rfl (by decide +kernel) ⟨Nat.le_of_ble_eq_true rfl, Nat.le_of_ble_eq_true rfl⟩ ⟨Nat.le_of_ble_eq_true rfl, Nat.le_of_ble_eq_true rfl⟩ 16 rfl rfl (fun q hq => lm_s0 z zo m a h q (st_s11 z (a 0) (h 0) q hq)) rfl rfl (Nat.le_of_ble_eq_true rfl) dX6_remembered_88 (st' := [.int r11]) rfl rfl ?_
            cases hF
            exact lm_iretR C hr hk rfl dX6_remembered_91
          · have hF := lm_brf hF c9
            refine lm_lookup C (off := 57) (tgt := 92) dX6_remembered_35 (by decide) (by rw [lv_osw c7 (by decide)]; rw [lv_osw c9 (by decide)]; rfl) (by decide) ?_
            refine lm_aload_n C dX6_remembered_92 rfl 0 rfl rfl ?_
            refine lm_getf C (T := TX6) (N := 9) (v := .ref (a 0 0)) in6_X6_remembered 0 rfl rfl 0 (by decide) fl10_X6_remembered rfl rfl dX6_remembered_93 rfl ?_
            refine lm_callVR C (n := 0) (ci := 4) (m_X4_answers_1 D z zo l (a 0) (h 0)  ) gX6_remembered_X4_answers rfl (by decide +kernel) ⟨Nat.le_of_ble_eq_true rfl, Nat.le_of_ble_eq_true rfl⟩ ⟨Nat.le_of_ble_eq_true rfl, Nat.le_of_ble_eq_true rfl⟩ 5 rfl rfl (lm_s0 z zo m a h) rfl rfl (Nat.le_of_ble_eq_true rfl) dX6_remembered_96 (st' := [.ref (a 0 7)]) rfl rfl ?_
            refine lm_iload_n C dX6_remembered_99 rfl 1 rfl rfl ?_
            refine lm_iload_n C dX6_remembered_100 rfl 2 rfl rfl ?_
            obtain ⟨r12, qr12, hF⟩ := lm_bde hF
            refine lm_callVR C (n := 2) (ci := 0) (m_X0_tell D z zo l (lm_sh 7 (a 0)) (lm_sh 7 (h 0)) x1 x2 r12 qr12) gX6_remembered_X0_tell rfl (by decide +kernel) ⟨Nat.le_of_ble_eq_true rfl, Nat.le_of_ble_eq_true rfl⟩ ⟨Nat.le_of_ble_eq_true rfl, Nat.le_of_ble_eq_true rfl⟩ 12 rfl rfl (fun q hq => lm_s0 z zo m a h q (st_s7 z (a 0) (h 0) q hq)) rfl rfl (Nat.le_of_ble_eq_true rfl) dX6_remembered_101 (st' := [.int r12]) rfl rfl ?_
            cases hF
            exact lm_iretR C hr hk rfl dX6_remembered_104
      · have hF := lm_brf hF c6
        refine lm_bipush C (v := (-4 : Int32)) dX6_remembered_31 (by decide) rfl ?_
        cases hF
        exact lm_iretR C hr hk rfl dX6_remembered_33
    · have hF := lm_brf hF c4
      refine lm_iconst C (v := (-1 : Int32)) dX6_remembered_15 (by decide) rfl ?_
      cases hF
      exact lm_iretR C hr hk rfl dX6_remembered_16
def F_X6_count (h : Nat → Hp) (x1 : Int32) : Option Int32 :=
  lm_br (x1 = (0 : Int32))
   (lm_bd (F_X5_size (lm_sh 1 (h 0))) fun r3 =>
   some r3)
   (lm_br (x1 = (1 : Int32))
    (lm_bd (F_X5_size (lm_sh 4 (h 0))) fun r6 =>
    some r6)
    (lm_br (x1 = (2 : Int32))
     (lm_bd (F_X2_size (lm_sh 11 (h 0))) fun r8 =>
     some r8)
     (lm_br (x1 = (3 : Int32))
      (lm_bd (F_X4_weightTogether (h 0)) fun r10 =>
      some r10)
      (lm_br (x1 = (4 : Int32))
       (lm_bd (F_X4_place (h 0)) fun r12 =>
       some r12)
       (lm_br (x1 = (5 : Int32))
        (lm_bd (F_X4_totalSoFar (h 0)) fun r14 =>
        some r14)
        (lm_br (x1 = (6 : Int32))
         (lm_bd (F_X6_isWithin x1 (19 : Int32)) fun r16 =>
         lm_br (r16 = 0)
          (some (-1 : Int32))
          (lm_bd (F_X4_tally (h 0) (x1 - (6 : Int32))) fun r18 =>
          some r18))
         (lm_br (x1 = (7 : Int32))
          (lm_bd (F_X6_isWithin x1 (19 : Int32)) fun r20 =>
          lm_br (r20 = 0)
           (some (-1 : Int32))
           (lm_bd (F_X4_tally (h 0) (x1 - (6 : Int32))) fun r22 =>
           some r22))
          (lm_br (x1 = (8 : Int32))
           (lm_bd (F_X6_isWithin x1 (19 : Int32)) fun r24 =>
           lm_br (r24 = 0)
            (some (-1 : Int32))
            (lm_bd (F_X4_tally (h 0) (x1 - (6 : Int32))) fun r26 =>
            some r26))
           (lm_br (x1 = (9 : Int32))
            (lm_bd (F_X6_isWithin x1 (19 : Int32)) fun r28 =>
            lm_br (r28 = 0)
             (some (-1 : Int32))
             (lm_bd (F_X4_tally (h 0) (x1 - (6 : Int32))) fun r30 =>
             some r30))
            (lm_br (x1 = (10 : Int32))
             (lm_bd (F_X6_isWithin x1 (19 : Int32)) fun r32 =>
             lm_br (r32 = 0)
              (some (-1 : Int32))
              (lm_bd (F_X4_tally (h 0) (x1 - (6 : Int32))) fun r34 =>
              some r34))
             (lm_br (x1 = (11 : Int32))
              (lm_bd (F_X6_isWithin x1 (19 : Int32)) fun r36 =>
              lm_br (r36 = 0)
               (some (-1 : Int32))
               (lm_bd (F_X4_tally (h 0) (x1 - (6 : Int32))) fun r38 =>
               some r38))
              (lm_br (x1 = (12 : Int32))
               (lm_bd (F_X6_isWithin x1 (19 : Int32)) fun r40 =>
               lm_br (r40 = 0)
                (some (-1 : Int32))
                (lm_bd (F_X4_tally (h 0) (x1 - (6 : Int32))) fun r42 =>
                some r42))
               (lm_br (x1 = (13 : Int32))
                (lm_bd (F_X4_setting (h 0) (x1 - (13 : Int32))) fun r44 =>
                some r44)
                (lm_br (x1 = (14 : Int32))
                 (lm_bd (F_X4_setting (h 0) (x1 - (13 : Int32))) fun r46 =>
                 some r46)
                 (lm_br (x1 = (15 : Int32))
                  (lm_bd (F_X4_setting (h 0) (x1 - (13 : Int32))) fun r48 =>
                  some r48)
                  (lm_br (x1 = (16 : Int32))
                   (lm_bd (F_X4_setting (h 0) (x1 - (13 : Int32))) fun r50 =>
                   some r50)
                   (lm_br (x1 = (17 : Int32))
                    (lm_bd (F_X4_setting (h 0) (x1 - (13 : Int32))) fun r52 =>
                    some r52)
                    (lm_br (x1 = (18 : Int32))
                     (lm_bd (F_X3_size (lm_sh 1 (h 8))) fun r54 =>
                     some r54)
                     (lm_br (x1 = (19 : Int32))
                      (lm_bd (F_X1_size h) fun r56 =>
                      some r56)
                      (lm_bd (F_X6_isWithin x1 (19 : Int32)) fun r57 =>
                      lm_br (r57 = 0)
                       (some (-1 : Int32))
                       (lm_bd (F_X4_tally (h 0) (x1 - (6 : Int32))) fun r59 =>
                       some r59)))))))))))))))))))))
theorem in6_X6_count : ∀ w ∈ u_ws RX6 TX6 9, w ∈ wsX6_count := by decide +kernel
theorem fl10_X6_count : Cond.fieldLink RX6 10 "LoopMemo" "now" "LLoopMemo$State;" ∈ wsX6_count := by decide +kernel
theorem fl32_X6_count : Cond.fieldLink RX6 32 "LoopMemo" "pad" "LLoopMemo$Pad;" ∈ wsX6_count := by decide +kernel
theorem fl25_X6_count : Cond.fieldLink RX6 25 "LoopMemo" "history" "LLoopMemo$History;" ∈ wsX6_count := by decide +kernel
set_option maxRecDepth 100000 in
set_option maxHeartbeats 4000000 in
theorem m_X6_count (D : va_G) (z zo : ClassId) (l : Launch) (m : Nat → Nat) (a : Nat → Nat → Nat) (h : Nat → Hp) (x1 : Int32) (r : Int32)  (hF : F_X6_count h x1 = some r) : lm_CR D z zo l yX6_count wsX6_count 2 43 [.ref (m 0), .int x1] (lmW z zo m a h) (some (.int r)) := by
  refine lm_CR.of (by decide) rfl (Nat.le_of_ble_eq_true rfl) (own := RX6) rfl ?_
  intro p e s m_ args below meth c C hr hk
  show lm_St p l e ({ frames := 2, cells := 0, slots := 0, locals := 43 }) s m_ args below meth c D (fun _ => False) 2 0 0 (lm_EndR below (some (.int r)) args s) true (lmW z zo m a h) 0 [(0, .ref (m 0)), (1, .int x1)] []
  rw [F_X6_count] at hF
  refine lm_iload_n C dX6_count_0 rfl 1 rfl rfl ?_
  rcases Classical.em (x1 = (0 : Int32)) with c1 | c1
  · have hF := lm_brt hF c1
    refine lm_tableIn C (0 : Int32) (off := 95) (tgt := 96) dX6_count_1 c1 (by decide) (by decide) (by decide) (by decide) ?_
    refine lm_aload_n C dX6_count_96 rfl 0 rfl rfl ?_
    refine lm_getf C (T := TX6) (N := 9) (v := .ref (a 0 0)) in6_X6_count 0 rfl rfl 0 (by decide) fl10_X6_count rfl rfl dX6_count_97 rfl ?_
    refine lm_iconst C (v := (0 : Int32)) dX6_count_100 (by decide) rfl ?_
    refine lm_callVR C (n := 1) (ci := 4) (m_X4_table_1 D z zo l (a 0) (h 0) (0 : Int32) (by decide)) gX6_count_X4_table rfl (by decide +kernel) ⟨Nat.le_of_ble_eq_true rfl, Nat.le_of_ble_eq_true rfl⟩ ⟨Nat.le_of_ble_eq_true rfl, Nat.le_of_ble_eq_true rfl⟩ 5 rfl rfl (lm_s0 z zo m a h) rfl rfl (Nat.le_of_ble_eq_true rfl) dX6_count_101 (st' := [.ref (a 0 1)]) rfl rfl ?_
    obtain ⟨r3, qr3, hF⟩ := lm_bde hF
    refine lm_callVR C (n := 0) (ci := 5) (m_X5_size D z zo l (lm_sh 1 (a 0)) (lm_sh 1 (h 0))  r3 qr3) gX6_count_X5_size rfl (by decide +kernel) ⟨Nat.le_of_ble_eq_true rfl, Nat.le_of_ble_eq_true rfl⟩ ⟨Nat.le_of_ble_eq_true rfl, Nat.le_of_ble_eq_true rfl⟩ 6 rfl rfl (fun q hq => lm_s0 z zo m a h q (st_s1 z (a 0) (h 0) q hq)) rfl rfl (Nat.le_of_ble_eq_true rfl) dX6_count_104 (st' := [.int r3]) rfl rfl ?_
    cases hF
    exact lm_iretR C hr hk rfl dX6_count_107
  · have hF := lm_brf hF c1
    rcases Classical.em (x1 = (1 : Int32)) with c4 | c4
    · have hF := lm_brt hF c4
      refine lm_tableIn C (1 : Int32) (off := 107) (tgt := 108) dX6_count_1 c4 (by decide) (by decide) (by decide) (by decide) ?_
      refine lm_aload_n C dX6_count_108 rfl 0 rfl rfl ?_
      refine lm_getf C (T := TX6) (N := 9) (v := .ref (a 0 0)) in6_X6_count 0 rfl rfl 0 (by decide) fl10_X6_count rfl rfl dX6_count_109 rfl ?_
      refine lm_iconst C (v := (1 : Int32)) dX6_count_112 (by decide) rfl ?_
      refine lm_callVR C (n := 1) (ci := 4) (m_X4_table_2 D z zo l (a 0) (h 0) (1 : Int32) (by decide)) gX6_count_X4_table rfl (by decide +kernel) ⟨Nat.le_of_ble_eq_true rfl, Nat.le_of_ble_eq_true rfl⟩ ⟨Nat.le_of_ble_eq_true rfl, Nat.le_of_ble_eq_true rfl⟩ 5 rfl rfl (lm_s0 z zo m a h) rfl rfl (Nat.le_of_ble_eq_true rfl) dX6_count_113 (st' := [.ref (a 0 4)]) rfl rfl ?_
      obtain ⟨r6, qr6, hF⟩ := lm_bde hF
      refine lm_callVR C (n := 0) (ci := 5) (m_X5_size D z zo l (lm_sh 4 (a 0)) (lm_sh 4 (h 0))  r6 qr6) gX6_count_X5_size rfl (by decide +kernel) ⟨Nat.le_of_ble_eq_true rfl, Nat.le_of_ble_eq_true rfl⟩ ⟨Nat.le_of_ble_eq_true rfl, Nat.le_of_ble_eq_true rfl⟩ 9 rfl rfl (fun q hq => lm_s0 z zo m a h q (st_s4 z (a 0) (h 0) q hq)) rfl rfl (Nat.le_of_ble_eq_true rfl) dX6_count_116 (st' := [.int r6]) rfl rfl ?_
      cases hF
      exact lm_iretR C hr hk rfl dX6_count_119
    · have hF := lm_brf hF c4
      rcases Classical.em (x1 = (2 : Int32)) with c7 | c7
      · have hF := lm_brt hF c7
        refine lm_tableIn C (2 : Int32) (off := 119) (tgt := 120) dX6_count_1 c7 (by decide) (by decide) (by decide) (by decide) ?_
        refine lm_aload_n C dX6_count_120 rfl 0 rfl rfl ?_
        refine lm_getf C (T := TX6) (N := 9) (v := .ref (a 0 0)) in6_X6_count 0 rfl rfl 0 (by decide) fl10_X6_count rfl rfl dX6_count_121 rfl ?_
        refine lm_callVR C (n := 0) (ci := 4) (m_X4_memo_1 D z zo l (a 0) (h 0)  ) gX6_count_X4_memo rfl (by decide +kernel) ⟨Nat.le_of_ble_eq_true rfl, Nat.le_of_ble_eq_true rfl⟩ ⟨Nat.le_of_ble_eq_true rfl, Nat.le_of_ble_eq_true rfl⟩ 5 rfl rfl (lm_s0 z zo m a h) rfl rfl (Nat.le_of_ble_eq_true rfl) dX6_count_124 (st' := [.ref (a 0 11)]) rfl rfl ?_
        obtain ⟨r8, qr8, hF⟩ := lm_bde hF
        refine lm_callVR C (n := 0) (ci := 2) (m_X2_size D z zo l (lm_sh 11 (a 0)) (lm_sh 11 (h 0))  r8 qr8) gX6_count_X2_size rfl (by decide +kernel) ⟨Nat.le_of_ble_eq_true rfl, Nat.le_of_ble_eq_true rfl⟩ ⟨Nat.le_of_ble_eq_true rfl, Nat.le_of_ble_eq_true rfl⟩ 16 rfl rfl (fun q hq => lm_s0 z zo m a h q (st_s11 z (a 0) (h 0) q hq)) rfl rfl (Nat.le_of_ble_eq_true rfl) dX6_count_127 (st' := [.int r8]) rfl rfl ?_
        cases hF
        exact lm_iretR C hr hk rfl dX6_count_130
      · have hF := lm_brf hF c7
        rcases Classical.em (x1 = (3 : Int32)) with c9 | c9
        · have hF := lm_brt hF c9
          refine lm_tableIn C (3 : Int32) (off := 130) (tgt := 131) dX6_count_1 c9 (by decide) (by decide) (by decide) (by decide) ?_
          refine lm_aload_n C dX6_count_131 rfl 0 rfl rfl ?_
          refine lm_getf C (T := TX6) (N := 9) (v := .ref (a 0 0)) in6_X6_count 0 rfl rfl 0 (by decide) fl10_X6_count rfl rfl dX6_count_132 rfl ?_
          obtain ⟨r10, qr10, hF⟩ := lm_bde hF
          refine lm_callVR C (n := 0) (ci := 4) (m_X4_weightTogether D z zo l (a 0) (h 0)  r10 qr10) gX6_count_X4_weightTogether rfl (by decide +kernel) ⟨Nat.le_of_ble_eq_true rfl, Nat.le_of_ble_eq_true rfl⟩ ⟨Nat.le_of_ble_eq_true rfl, Nat.le_of_ble_eq_true rfl⟩ 5 rfl rfl (lm_s0 z zo m a h) rfl rfl (Nat.le_of_ble_eq_true rfl) dX6_count_135 (st' := [.int r10]) rfl rfl ?_
          cases hF
          exact lm_iretR C hr hk rfl dX6_count_138
        · have hF := lm_brf hF c9
          rcases Classical.em (x1 = (4 : Int32)) with c11 | c11
          · have hF := lm_brt hF c11
            refine lm_tableIn C (4 : Int32) (off := 138) (tgt := 139) dX6_count_1 c11 (by decide) (by decide) (by decide) (by decide) ?_
            refine lm_aload_n C dX6_count_139 rfl 0 rfl rfl ?_
            refine lm_getf C (T := TX6) (N := 9) (v := .ref (a 0 0)) in6_X6_count 0 rfl rfl 0 (by decide) fl10_X6_count rfl rfl dX6_count_140 rfl ?_
            obtain ⟨r12, qr12, hF⟩ := lm_bde hF
            refine lm_callVR C (n := 0) (ci := 4) (m_X4_place D z zo l (a 0) (h 0)  r12 qr12) gX6_count_X4_place rfl (by decide +kernel) ⟨Nat.le_of_ble_eq_true rfl, Nat.le_of_ble_eq_true rfl⟩ ⟨Nat.le_of_ble_eq_true rfl, Nat.le_of_ble_eq_true rfl⟩ 5 rfl rfl (lm_s0 z zo m a h) rfl rfl (Nat.le_of_ble_eq_true rfl) dX6_count_143 (st' := [.int r12]) rfl rfl ?_
            cases hF
            exact lm_iretR C hr hk rfl dX6_count_146
          · have hF := lm_brf hF c11
            rcases Classical.em (x1 = (5 : Int32)) with c13 | c13
            · have hF := lm_brt hF c13
              refine lm_tableIn C (5 : Int32) (off := 146) (tgt := 147) dX6_count_1 c13 (by decide) (by decide) (by decide) (by decide) ?_
              refine lm_aload_n C dX6_count_147 rfl 0 rfl rfl ?_
              refine lm_getf C (T := TX6) (N := 9) (v := .ref (a 0 0)) in6_X6_count 0 rfl rfl 0 (by decide) fl10_X6_count rfl rfl dX6_count_148 rfl ?_
              obtain ⟨r14, qr14, hF⟩ := lm_bde hF
              refine lm_callVR C (n := 0) (ci := 4) (m_X4_totalSoFar D z zo l (a 0) (h 0)  r14 qr14) gX6_count_X4_totalSoFar rfl (by decide +kernel) ⟨Nat.le_of_ble_eq_true rfl, Nat.le_of_ble_eq_true rfl⟩ ⟨Nat.le_of_ble_eq_true rfl, Nat.le_of_ble_eq_true rfl⟩ 5 rfl rfl (lm_s0 z zo m a h) rfl rfl (Nat.le_of_ble_eq_true rfl) dX6_count_151 (st' := [.int r14]) rfl rfl ?_
              cases hF
              exact lm_iretR C hr hk rfl dX6_count_154
            · have hF := lm_brf hF c13
              rcases Classical.em (x1 = (6 : Int32)) with c15 | c15
              · have hF := lm_brt hF c15
                refine lm_tableIn C (6 : Int32) (off := 182) (tgt := 183) dX6_count_1 c15 (by decide) (by decide) (by decide) (by decide) ?_
                refine lm_iload_n C dX6_count_183 rfl 1 rfl rfl ?_
                refine lm_bipush C (v := (19 : Int32)) dX6_count_184 (by decide) rfl ?_
                obtain ⟨r16, qr16, hF⟩ := lm_bde hF
                refine lm_callSR C (n := 2) (m_X6_isWithin D z zo l   x1 (19 : Int32) r16 qr16) gX6_count_X6_isWithin rfl (by decide +kernel) ⟨Nat.le_of_ble_eq_true rfl, Nat.le_of_ble_eq_true rfl⟩ ⟨Nat.le_of_ble_eq_true rfl, Nat.le_of_ble_eq_true rfl⟩ (fun _ h => absurd h List.not_mem_nil) rfl rfl (Nat.le_of_ble_eq_true rfl) dX6_count_186 (st' := [.int r16]) rfl rfl ?_
                refine lm_if_eq C (tgt := 206) dX6_count_189 (by decide) rfl (fun c17 => ?_) (fun c17 => ?_)
                · have hF := lm_brt hF c17
                  refine lm_iconst C (v := (-1 : Int32)) dX6_count_206 (by decide) rfl ?_
                  cases hF
                  exact lm_iretR C hr hk rfl dX6_count_207
                · have hF := lm_brf hF c17
                  refine lm_aload_n C dX6_count_192 rfl 0 rfl rfl ?_
                  refine lm_getf C (T := TX6) (N := 9) (v := .ref (a 0 0)) in6_X6_count 0 rfl rfl 0 (by decide) fl10_X6_count rfl rfl dX6_count_193 rfl ?_
                  refine lm_iload_n C dX6_count_196 rfl 1 rfl rfl ?_
                  refine lm_bipush C (v := (6 : Int32)) dX6_count_197 (by decide) rfl ?_
                  refine lm_isub C dX6_count_199 rfl rfl ?_
                  obtain ⟨r18, qr18, hF⟩ := lm_bde hF
                  refine lm_callVR C (n := 1) (ci := 4) (m_X4_tally D z zo l (a 0) (h 0) (x1 - (6 : Int32)) r18 qr18) gX6_count_X4_tally rfl (by decide +kernel) ⟨Nat.le_of_ble_eq_true rfl, Nat.le_of_ble_eq_true rfl⟩ ⟨Nat.le_of_ble_eq_true rfl, Nat.le_of_ble_eq_true rfl⟩ 5 rfl rfl (lm_s0 z zo m a h) rfl rfl (Nat.le_of_ble_eq_true rfl) dX6_count_200 (st' := [.int r18]) rfl rfl ?_
                  refine lm_goto C (tgt := 207) dX6_count_203 (by decide) ?_
                  cases hF
                  exact lm_iretR C hr hk rfl dX6_count_207
              · have hF := lm_brf hF c15
                rcases Classical.em (x1 = (7 : Int32)) with c19 | c19
                · have hF := lm_brt hF c19
                  refine lm_tableIn C (7 : Int32) (off := 182) (tgt := 183) dX6_count_1 c19 (by decide) (by decide) (by decide) (by decide) ?_
                  refine lm_iload_n C dX6_count_183 rfl 1 rfl rfl ?_
                  refine lm_bipush C (v := (19 : Int32)) dX6_count_184 (by decide) rfl ?_
                  obtain ⟨r20, qr20, hF⟩ := lm_bde hF
                  refine lm_callSR C (n := 2) (m_X6_isWithin D z zo l   x1 (19 : Int32) r20 qr20) gX6_count_X6_isWithin rfl (by decide +kernel) ⟨Nat.le_of_ble_eq_true rfl, Nat.le_of_ble_eq_true rfl⟩ ⟨Nat.le_of_ble_eq_true rfl, Nat.le_of_ble_eq_true rfl⟩ (fun _ h => absurd h List.not_mem_nil) rfl rfl (Nat.le_of_ble_eq_true rfl) dX6_count_186 (st' := [.int r20]) rfl rfl ?_
                  refine lm_if_eq C (tgt := 206) dX6_count_189 (by decide) rfl (fun c21 => ?_) (fun c21 => ?_)
                  · have hF := lm_brt hF c21
                    refine lm_iconst C (v := (-1 : Int32)) dX6_count_206 (by decide) rfl ?_
                    cases hF
                    exact lm_iretR C hr hk rfl dX6_count_207
                  · have hF := lm_brf hF c21
                    refine lm_aload_n C dX6_count_192 rfl 0 rfl rfl ?_
                    refine lm_getf C (T := TX6) (N := 9) (v := .ref (a 0 0)) in6_X6_count 0 rfl rfl 0 (by decide) fl10_X6_count rfl rfl dX6_count_193 rfl ?_
                    refine lm_iload_n C dX6_count_196 rfl 1 rfl rfl ?_
                    refine lm_bipush C (v := (6 : Int32)) dX6_count_197 (by decide) rfl ?_
                    refine lm_isub C dX6_count_199 rfl rfl ?_
                    obtain ⟨r22, qr22, hF⟩ := lm_bde hF
                    refine lm_callVR C (n := 1) (ci := 4) (m_X4_tally D z zo l (a 0) (h 0) (x1 - (6 : Int32)) r22 qr22) gX6_count_X4_tally rfl (by decide +kernel) ⟨Nat.le_of_ble_eq_true rfl, Nat.le_of_ble_eq_true rfl⟩ ⟨Nat.le_of_ble_eq_true rfl, Nat.le_of_ble_eq_true rfl⟩ 5 rfl rfl (lm_s0 z zo m a h) rfl rfl (Nat.le_of_ble_eq_true rfl) dX6_count_200 (st' := [.int r22]) rfl rfl ?_
                    refine lm_goto C (tgt := 207) dX6_count_203 (by decide) ?_
                    cases hF
                    exact lm_iretR C hr hk rfl dX6_count_207
                · have hF := lm_brf hF c19
                  rcases Classical.em (x1 = (8 : Int32)) with c23 | c23
                  · have hF := lm_brt hF c23
                    refine lm_tableIn C (8 : Int32) (off := 182) (tgt := 183) dX6_count_1 c23 (by decide) (by decide) (by decide) (by decide) ?_
                    refine lm_iload_n C dX6_count_183 rfl 1 rfl rfl ?_
                    refine lm_bipush C (v := (19 : Int32)) dX6_count_184 (by decide) rfl ?_
                    obtain ⟨r24, qr24, hF⟩ := lm_bde hF
                    refine lm_callSR C (n := 2) (m_X6_isWithin D z zo l   x1 (19 : Int32) r24 qr24) gX6_count_X6_isWithin rfl (by decide +kernel) ⟨Nat.le_of_ble_eq_true rfl, Nat.le_of_ble_eq_true rfl⟩ ⟨Nat.le_of_ble_eq_true rfl, Nat.le_of_ble_eq_true rfl⟩ (fun _ h => absurd h List.not_mem_nil) rfl rfl (Nat.le_of_ble_eq_true rfl) dX6_count_186 (st' := [.int r24]) rfl rfl ?_
                    refine lm_if_eq C (tgt := 206) dX6_count_189 (by decide) rfl (fun c25 => ?_) (fun c25 => ?_)
                    · have hF := lm_brt hF c25
                      refine lm_iconst C (v := (-1 : Int32)) dX6_count_206 (by decide) rfl ?_
                      cases hF
                      exact lm_iretR C hr hk rfl dX6_count_207
                    · have hF := lm_brf hF c25
                      refine lm_aload_n C dX6_count_192 rfl 0 rfl rfl ?_
                      refine lm_getf C (T := TX6) (N := 9) (v := .ref (a 0 0)) in6_X6_count 0 rfl rfl 0 (by decide) fl10_X6_count rfl rfl dX6_count_193 rfl ?_
                      refine lm_iload_n C dX6_count_196 rfl 1 rfl rfl ?_
                      refine lm_bipush C (v := (6 : Int32)) dX6_count_197 (by decide) rfl ?_
                      refine lm_isub C dX6_count_199 rfl rfl ?_
                      obtain ⟨r26, qr26, hF⟩ := lm_bde hF
                      refine lm_callVR C (n := 1) (ci := 4) (m_X4_tally D z zo l (a 0) (h 0) (x1 - (6 : Int32)) r26 qr26) gX6_count_X4_tally rfl (by decide +kernel) ⟨Nat.le_of_ble_eq_true rfl, Nat.le_of_ble_eq_true rfl⟩ ⟨Nat.le_of_ble_eq_true rfl, Nat.le_of_ble_eq_true rfl⟩ 5 rfl rfl (lm_s0 z zo m a h) rfl rfl (Nat.le_of_ble_eq_true rfl) dX6_count_200 (st' := [.int r26]) rfl rfl ?_
                      refine lm_goto C (tgt := 207) dX6_count_203 (by decide) ?_
                      cases hF
                      exact lm_iretR C hr hk rfl dX6_count_207
                  · have hF := lm_brf hF c23
                    rcases Classical.em (x1 = (9 : Int32)) with c27 | c27
                    · have hF := lm_brt hF c27
                      refine lm_tableIn C (9 : Int32) (off := 182) (tgt := 183) dX6_count_1 c27 (by decide) (by decide) (by decide) (by decide) ?_
                      refine lm_iload_n C dX6_count_183 rfl 1 rfl rfl ?_
                      refine lm_bipush C (v := (19 : Int32)) dX6_count_184 (by decide) rfl ?_
                      obtain ⟨r28, qr28, hF⟩ := lm_bde hF
                      refine lm_callSR C (n := 2) (m_X6_isWithin D z zo l   x1 (19 : Int32) r28 qr28) gX6_count_X6_isWithin rfl (by decide +kernel) ⟨Nat.le_of_ble_eq_true rfl, Nat.le_of_ble_eq_true rfl⟩ ⟨Nat.le_of_ble_eq_true rfl, Nat.le_of_ble_eq_true rfl⟩ (fun _ h => absurd h List.not_mem_nil) rfl rfl (Nat.le_of_ble_eq_true rfl) dX6_count_186 (st' := [.int r28]) rfl rfl ?_
                      refine lm_if_eq C (tgt := 206) dX6_count_189 (by decide) rfl (fun c29 => ?_) (fun c29 => ?_)
                      · have hF := lm_brt hF c29
                        refine lm_iconst C (v := (-1 : Int32)) dX6_count_206 (by decide) rfl ?_
                        cases hF
                        exact lm_iretR C hr hk rfl dX6_count_207
                      · have hF := lm_brf hF c29
                        refine lm_aload_n C dX6_count_192 rfl 0 rfl rfl ?_
                        refine lm_getf C (T := TX6) (N := 9) (v := .ref (a 0 0)) in6_X6_count 0 rfl rfl 0 (by decide) fl10_X6_count rfl rfl dX6_count_193 rfl ?_
                        refine lm_iload_n C dX6_count_196 rfl 1 rfl rfl ?_
                        refine lm_bipush C (v := (6 : Int32)) dX6_count_197 (by decide) rfl ?_
                        refine lm_isub C dX6_count_199 rfl rfl ?_
                        obtain ⟨r30, qr30, hF⟩ := lm_bde hF
                        refine lm_callVR C (n := 1) (ci := 4) (m_X4_tally D z zo l (a 0) (h 0) (x1 - (6 : Int32)) r30 qr30) gX6_count_X4_tally rfl (by decide +kernel) ⟨Nat.le_of_ble_eq_true rfl, Nat.le_of_ble_eq_true rfl⟩ ⟨Nat.le_of_ble_eq_true rfl, Nat.le_of_ble_eq_true rfl⟩ 5 rfl rfl (lm_s0 z zo m a h) rfl rfl (Nat.le_of_ble_eq_true rfl) dX6_count_200 (st' := [.int r30]) rfl rfl ?_
                        refine lm_goto C (tgt := 207) dX6_count_203 (by decide) ?_
                        cases hF
                        exact lm_iretR C hr hk rfl dX6_count_207
                    · have hF := lm_brf hF c27
                      rcases Classical.em (x1 = (10 : Int32)) with c31 | c31
                      · have hF := lm_brt hF c31
                        refine lm_tableIn C (10 : Int32) (off := 182) (tgt := 183) dX6_count_1 c31 (by decide) (by decide) (by decide) (by decide) ?_
                        refine lm_iload_n C dX6_count_183 rfl 1 rfl rfl ?_
                        refine lm_bipush C (v := (19 : Int32)) dX6_count_184 (by decide) rfl ?_
                        obtain ⟨r32, qr32, hF⟩ := lm_bde hF
                        refine lm_callSR C (n := 2) (m_X6_isWithin D z zo l   x1 (19 : Int32) r32 qr32) gX6_count_X6_isWithin rfl (by decide +kernel) ⟨Nat.le_of_ble_eq_true rfl, Nat.le_of_ble_eq_true rfl⟩ ⟨Nat.le_of_ble_eq_true rfl, Nat.le_of_ble_eq_true rfl⟩ (fun _ h => absurd h List.not_mem_nil) rfl rfl (Nat.le_of_ble_eq_true rfl) dX6_count_186 (st' := [.int r32]) rfl rfl ?_
                        refine lm_if_eq C (tgt := 206) dX6_count_189 (by decide) rfl (fun c33 => ?_) (fun c33 => ?_)
                        · have hF := lm_brt hF c33
                          refine lm_iconst C (v := (-1 : Int32)) dX6_count_206 (by decide) rfl ?_
                          cases hF
                          exact lm_iretR C hr hk rfl dX6_count_207
                        · have hF := lm_brf hF c33
                          refine lm_aload_n C dX6_count_192 rfl 0 rfl rfl ?_
                          refine lm_getf C (T := TX6) (N := 9) (v := .ref (a 0 0)) in6_X6_count 0 rfl rfl 0 (by decide) fl10_X6_count rfl rfl dX6_count_193 rfl ?_
                          refine lm_iload_n C dX6_count_196 rfl 1 rfl rfl ?_
                          refine lm_bipush C (v := (6 : Int32)) dX6_count_197 (by decide) rfl ?_
                          refine lm_isub C dX6_count_199 rfl rfl ?_
                          obtain ⟨r34, qr34, hF⟩ := lm_bde hF
                          refine lm_callVR C (n := 1) (ci := 4) (m_X4_tally D z zo l (a 0) (h 0) (x1 - (6 : Int32)) r34 qr34) gX6_count_X4_tally rfl (by decide +kernel) ⟨Nat.le_of_ble_eq_true rfl, Nat.le_of_ble_eq_true rfl⟩ ⟨Nat.le_of_ble_eq_true rfl, Nat.le_of_ble_eq_true rfl⟩ 5 rfl rfl (lm_s0 z zo m a h) rfl rfl (Nat.le_of_ble_eq_true rfl) dX6_count_200 (st' := [.int r34]) rfl rfl ?_
                          refine lm_goto C (tgt := 207) dX6_count_203 (by decide) ?_
                          cases hF
                          exact lm_iretR C hr hk rfl dX6_count_207
                      · have hF := lm_brf hF c31
                        rcases Classical.em (x1 = (11 : Int32)) with c35 | c35
                        · have hF := lm_brt hF c35
                          refine lm_tableIn C (11 : Int32) (off := 182) (tgt := 183) dX6_count_1 c35 (by decide) (by decide) (by decide) (by decide) ?_
                          refine lm_iload_n C dX6_count_183 rfl 1 rfl rfl ?_
                          refine lm_bipush C (v := (19 : Int32)) dX6_count_184 (by decide) rfl ?_
                          obtain ⟨r36, qr36, hF⟩ := lm_bde hF
                          refine lm_callSR C (n := 2) (m_X6_isWithin D z zo l   x1 (19 : Int32) r36 qr36) gX6_count_X6_isWithin rfl (by decide +kernel) ⟨Nat.le_of_ble_eq_true rfl, Nat.le_of_ble_eq_true rfl⟩ ⟨Nat.le_of_ble_eq_true rfl, Nat.le_of_ble_eq_true rfl⟩ (fun _ h => absurd h List.not_mem_nil) rfl rfl (Nat.le_of_ble_eq_true rfl) dX6_count_186 (st' := [.int r36]) rfl rfl ?_
                          refine lm_if_eq C (tgt := 206) dX6_count_189 (by decide) rfl (fun c37 => ?_) (fun c37 => ?_)
                          · have hF := lm_brt hF c37
                            refine lm_iconst C (v := (-1 : Int32)) dX6_count_206 (by decide) rfl ?_
                            cases hF
                            exact lm_iretR C hr hk rfl dX6_count_207
                          · have hF := lm_brf hF c37
                            refine lm_aload_n C dX6_count_192 rfl 0 rfl rfl ?_
                            refine lm_getf C (T := TX6) (N := 9) (v := .ref (a 0 0)) in6_X6_count 0 rfl rfl 0 (by decide) fl10_X6_count rfl rfl dX6_count_193 rfl ?_
                            refine lm_iload_n C dX6_count_196 rfl 1 rfl rfl ?_
                            refine lm_bipush C (v := (6 : Int32)) dX6_count_197 (by decide) rfl ?_
                            refine lm_isub C dX6_count_199 rfl rfl ?_
                            obtain ⟨r38, qr38, hF⟩ := lm_bde hF
                            refine lm_callVR C (n := 1) (ci := 4) (m_X4_tally D z zo l (a 0) (h 0) (x1 - (6 : Int32)) r38 qr38) gX6_count_X4_tally rfl (by decide +kernel) ⟨Nat.le_of_ble_eq_true rfl, Nat.le_of_ble_eq_true rfl⟩ ⟨Nat.le_of_ble_eq_true rfl, Nat.le_of_ble_eq_true rfl⟩ 5 rfl rfl (lm_s0 z zo m a h) rfl rfl (Nat.le_of_ble_eq_true rfl) dX6_count_200 (st' := [.int r38]) rfl rfl ?_
                            refine lm_goto C (tgt := 207) dX6_count_203 (by decide) ?_
                            cases hF
                            exact lm_iretR C hr hk rfl dX6_count_207
                        · have hF := lm_brf hF c35
                          rcases Classical.em (x1 = (12 : Int32)) with c39 | c39
                          · have hF := lm_brt hF c39
                            refine lm_tableIn C (12 : Int32) (off := 182) (tgt := 183) dX6_count_1 c39 (by decide) (by decide) (by decide) (by decide) ?_
                            refine lm_iload_n C dX6_count_183 rfl 1 rfl rfl ?_
                            refine lm_bipush C (v := (19 : Int32)) dX6_count_184 (by decide) rfl ?_
                            obtain ⟨r40, qr40, hF⟩ := lm_bde hF
                            refine lm_callSR C (n := 2) (m_X6_isWithin D z zo l   x1 (19 : Int32) r40 qr40) gX6_count_X6_isWithin rfl (by decide +kernel) ⟨Nat.le_of_ble_eq_true rfl, Nat.le_of_ble_eq_true rfl⟩ ⟨Nat.le_of_ble_eq_true rfl, Nat.le_of_ble_eq_true rfl⟩ (fun _ h => absurd h List.not_mem_nil) rfl rfl (Nat.le_of_ble_eq_true rfl) dX6_count_186 (st' := [.int r40]) rfl rfl ?_
                            refine lm_if_eq C (tgt := 206) dX6_count_189 (by decide) rfl (fun c41 => ?_) (fun c41 => ?_)
                            · have hF := lm_brt hF c41
                              refine lm_iconst C (v := (-1 : Int32)) dX6_count_206 (by decide) rfl ?_
                              cases hF
                              exact lm_iretR C hr hk rfl dX6_count_207
                            · have hF := lm_brf hF c41
                              refine lm_aload_n C dX6_count_192 rfl 0 rfl rfl ?_
                              refine lm_getf C (T := TX6) (N := 9) (v := .ref (a 0 0)) in6_X6_count 0 rfl rfl 0 (by decide) fl10_X6_count rfl rfl dX6_count_193 rfl ?_
                              refine lm_iload_n C dX6_count_196 rfl 1 rfl rfl ?_
                              refine lm_bipush C (v := (6 : Int32)) dX6_count_197 (by decide) rfl ?_
                              refine lm_isub C dX6_count_199 rfl rfl ?_
                              obtain ⟨r42, qr42, hF⟩ := lm_bde hF
                              refine lm_callVR C (n := 1) (ci := 4) (m_X4_tally D z zo l (a 0) (h 0) (x1 - (6 : Int32)) r42 qr42) gX6_count_X4_tally rfl (by decide +kernel) ⟨Nat.le_of_ble_eq_true rfl, Nat.le_of_ble_eq_true rfl⟩ ⟨Nat.le_of_ble_eq_true rfl, Nat.le_of_ble_eq_true rfl⟩ 5 rfl rfl (lm_s0 z zo m a h) rfl rfl (Nat.le_of_ble_eq_true rfl) dX6_count_200 (st' := [.int r42]) rfl rfl ?_
                              refine lm_goto C (tgt := 207) dX6_count_203 (by decide) ?_
                              cases hF
                              exact lm_iretR C hr hk rfl dX6_count_207
                          · have hF := lm_brf hF c39
                            rcases Classical.em (x1 = (13 : Int32)) with c43 | c43
                            · have hF := lm_brt hF c43
                              refine lm_tableIn C (13 : Int32) (off := 154) (tgt := 155) dX6_count_1 c43 (by decide) (by decide) (by decide) (by decide) ?_
                              refine lm_aload_n C dX6_count_155 rfl 0 rfl rfl ?_
                              refine lm_getf C (T := TX6) (N := 9) (v := .ref (a 0 0)) in6_X6_count 0 rfl rfl 0 (by decide) fl10_X6_count rfl rfl dX6_count_156 rfl ?_
                              refine lm_iload_n C dX6_count_159 rfl 1 rfl rfl ?_
                              refine lm_bipush C (v := (13 : Int32)) dX6_count_160 (by decide) rfl ?_
                              refine lm_isub C dX6_count_162 rfl rfl ?_
                              obtain ⟨r44, qr44, hF⟩ := lm_bde hF
                              refine lm_callVR C (n := 1) (ci := 4) (m_X4_setting D z zo l (a 0) (h 0) (x1 - (13 : Int32)) r44 qr44) gX6_count_X4_setting rfl (by decide +kernel) ⟨Nat.le_of_ble_eq_true rfl, Nat.le_of_ble_eq_true rfl⟩ ⟨Nat.le_of_ble_eq_true rfl, Nat.le_of_ble_eq_true rfl⟩ 5 rfl rfl (lm_s0 z zo m a h) rfl rfl (Nat.le_of_ble_eq_true rfl) dX6_count_163 (st' := [.int r44]) rfl rfl ?_
                              cases hF
                              exact lm_iretR C hr hk rfl dX6_count_166
                            · have hF := lm_brf hF c43
                              rcases Classical.em (x1 = (14 : Int32)) with c45 | c45
                              · have hF := lm_brt hF c45
                                refine lm_tableIn C (14 : Int32) (off := 154) (tgt := 155) dX6_count_1 c45 (by decide) (by decide) (by decide) (by decide) ?_
                                refine lm_aload_n C dX6_count_155 rfl 0 rfl rfl ?_
                                refine lm_getf C (T := TX6) (N := 9) (v := .ref (a 0 0)) in6_X6_count 0 rfl rfl 0 (by decide) fl10_X6_count rfl rfl dX6_count_156 rfl ?_
                                refine lm_iload_n C dX6_count_159 rfl 1 rfl rfl ?_
                                refine lm_bipush C (v := (13 : Int32)) dX6_count_160 (by decide) rfl ?_
                                refine lm_isub C dX6_count_162 rfl rfl ?_
                                obtain ⟨r46, qr46, hF⟩ := lm_bde hF
                                refine lm_callVR C (n := 1) (ci := 4) (m_X4_setting D z zo l (a 0) (h 0) (x1 - (13 : Int32)) r46 qr46) gX6_count_X4_setting rfl (by decide +kernel) ⟨Nat.le_of_ble_eq_true rfl, Nat.le_of_ble_eq_true rfl⟩ ⟨Nat.le_of_ble_eq_true rfl, Nat.le_of_ble_eq_true rfl⟩ 5 rfl rfl (lm_s0 z zo m a h) rfl rfl (Nat.le_of_ble_eq_true rfl) dX6_count_163 (st' := [.int r46]) rfl rfl ?_
                                cases hF
                                exact lm_iretR C hr hk rfl dX6_count_166
                              · have hF := lm_brf hF c45
                                rcases Classical.em (x1 = (15 : Int32)) with c47 | c47
                                · have hF := lm_brt hF c47
                                  refine lm_tableIn C (15 : Int32) (off := 154) (tgt := 155) dX6_count_1 c47 (by decide) (by decide) (by decide) (by decide) ?_
                                  refine lm_aload_n C dX6_count_155 rfl 0 rfl rfl ?_
                                  refine lm_getf C (T := TX6) (N := 9) (v := .ref (a 0 0)) in6_X6_count 0 rfl rfl 0 (by decide) fl10_X6_count rfl rfl dX6_count_156 rfl ?_
                                  refine lm_iload_n C dX6_count_159 rfl 1 rfl rfl ?_
                                  refine lm_bipush C (v := (13 : Int32)) dX6_count_160 (by decide) rfl ?_
                                  refine lm_isub C dX6_count_162 rfl rfl ?_
                                  obtain ⟨r48, qr48, hF⟩ := lm_bde hF
                                  refine lm_callVR C (n := 1) (ci := 4) (m_X4_setting D z zo l (a 0) (h 0) (x1 - (13 : Int32)) r48 qr48) gX6_count_X4_setting rfl (by decide +kernel) ⟨Nat.le_of_ble_eq_true rfl, Nat.le_of_ble_eq_true rfl⟩ ⟨Nat.le_of_ble_eq_true rfl, Nat.le_of_ble_eq_true rfl⟩ 5 rfl rfl (lm_s0 z zo m a h) rfl rfl (Nat.le_of_ble_eq_true rfl) dX6_count_163 (st' := [.int r48]) rfl rfl ?_
                                  cases hF
                                  exact lm_iretR C hr hk rfl dX6_count_166
                                · have hF := lm_brf hF c47
                                  rcases Classical.em (x1 = (16 : Int32)) with c49 | c49
                                  · have hF := lm_brt hF c49
                                    refine lm_tableIn C (16 : Int32) (off := 154) (tgt := 155) dX6_count_1 c49 (by decide) (by decide) (by decide) (by decide) ?_
                                    refine lm_aload_n C dX6_count_155 rfl 0 rfl rfl ?_
                                    refine lm_getf C (T := TX6) (N := 9) (v := .ref (a 0 0)) in6_X6_count 0 rfl rfl 0 (by decide) fl10_X6_count rfl rfl dX6_count_156 rfl ?_
                                    refine lm_iload_n C dX6_count_159 rfl 1 rfl rfl ?_
                                    refine lm_bipush C (v := (13 : Int32)) dX6_count_160 (by decide) rfl ?_
                                    refine lm_isub C dX6_count_162 rfl rfl ?_
                                    obtain ⟨r50, qr50, hF⟩ := lm_bde hF
                                    refine lm_callVR C (n := 1) (ci := 4) (m_X4_setting D z zo l (a 0) (h 0) (x1 - (13 : Int32)) r50 qr50) gX6_count_X4_setting rfl (by decide +kernel) ⟨Nat.le_of_ble_eq_true rfl, Nat.le_of_ble_eq_true rfl⟩ ⟨Nat.le_of_ble_eq_true rfl, Nat.le_of_ble_eq_true rfl⟩ 5 rfl rfl (lm_s0 z zo m a h) rfl rfl (Nat.le_of_ble_eq_true rfl) dX6_count_163 (st' := [.int r50]) rfl rfl ?_
                                    cases hF
                                    exact lm_iretR C hr hk rfl dX6_count_166
                                  · have hF := lm_brf hF c49
                                    rcases Classical.em (x1 = (17 : Int32)) with c51 | c51
                                    · have hF := lm_brt hF c51
                                      refine lm_tableIn C (17 : Int32) (off := 154) (tgt := 155) dX6_count_1 c51 (by decide) (by decide) (by decide) (by decide) ?_
                                      refine lm_aload_n C dX6_count_155 rfl 0 rfl rfl ?_
                                      refine lm_getf C (T := TX6) (N := 9) (v := .ref (a 0 0)) in6_X6_count 0 rfl rfl 0 (by decide) fl10_X6_count rfl rfl dX6_count_156 rfl ?_
                                      refine lm_iload_n C dX6_count_159 rfl 1 rfl rfl ?_
                                      refine lm_bipush C (v := (13 : Int32)) dX6_count_160 (by decide) rfl ?_
                                      refine lm_isub C dX6_count_162 rfl rfl ?_
                                      obtain ⟨r52, qr52, hF⟩ := lm_bde hF
                                      refine lm_callVR C (n := 1) (ci := 4) (m_X4_setting D z zo l (a 0) (h 0) (x1 - (13 : Int32)) r52 qr52) gX6_count_X4_setting rfl (by decide +kernel) ⟨Nat.le_of_ble_eq_true rfl, Nat.le_of_ble_eq_true rfl⟩ ⟨Nat.le_of_ble_eq_true rfl, Nat.le_of_ble_eq_true rfl⟩ 5 rfl rfl (lm_s0 z zo m a h) rfl rfl (Nat.le_of_ble_eq_true rfl) dX6_count_163 (st' := [.int r52]) rfl rfl ?_
                                      cases hF
                                      exact lm_iretR C hr hk rfl dX6_count_166
                                    · have hF := lm_brf hF c51
                                      rcases Classical.em (x1 = (18 : Int32)) with c53 | c53
                                      · have hF := lm_brt hF c53
                                        refine lm_tableIn C (18 : Int32) (off := 166) (tgt := 167) dX6_count_1 c53 (by decide) (by decide) (by decide) (by decide) ?_
                                        refine lm_aload_n C dX6_count_167 rfl 0 rfl rfl ?_
                                        refine lm_getf C (T := TX6) (N := 9) (v := .ref (m 1)) in6_X6_count 0 rfl rfl 4 (by decide) fl32_X6_count rfl rfl dX6_count_168 rfl ?_
                                        obtain ⟨r54, qr54, hF⟩ := lm_bde hF
                                        refine lm_callVR C (n := 0) (ci := 3) (m_X3_size D z zo l (lm_sh 1 m) (lm_sh 1 (h 8))  r54 qr54) gX6_count_X3_size rfl (by decide +kernel) ⟨Nat.le_of_ble_eq_true rfl, Nat.le_of_ble_eq_true rfl⟩ ⟨Nat.le_of_ble_eq_true rfl, Nat.le_of_ble_eq_true rfl⟩ 1 rfl rfl (lm_sP z zo m a h) rfl rfl (Nat.le_of_ble_eq_true rfl) dX6_count_171 (st' := [.int r54]) rfl rfl ?_
                                        cases hF
                                        exact lm_iretR C hr hk rfl dX6_count_174
                                      · have hF := lm_brf hF c53
                                        rcases Classical.em (x1 = (19 : Int32)) with c55 | c55
                                        · have hF := lm_brt hF c55
                                          refine lm_tableIn C (19 : Int32) (off := 174) (tgt := 175) dX6_count_1 c55 (by decide) (by decide) (by decide) (by decide) ?_
                                          refine lm_aload_n C dX6_count_175 rfl 0 rfl rfl ?_
                                          refine lm_getf C (T := TX6) (N := 9) (v := .ref (m 3)) in6_X6_count 0 rfl rfl 3 (by decide) fl25_X6_count rfl rfl dX6_count_176 rfl ?_
                                          obtain ⟨r56, qr56, hF⟩ := lm_bde hF
                                          refine lm_callVR C (n := 0) (ci := 1) (m_X1_size D z zo l m a h  r56 qr56) gX6_count_X1_size rfl (by decide +kernel) ⟨Nat.le_of_ble_eq_true rfl, Nat.le_of_ble_eq_true rfl⟩ ⟨Nat.le_of_ble_eq_true rfl, Nat.le_of_ble_eq_true rfl⟩ 3 rfl rfl (fun _ h => h) rfl rfl (Nat.le_of_ble_eq_true rfl) dX6_count_179 (st' := [.int r56]) rfl rfl ?_
                                          cases hF
                                          exact lm_iretR C hr hk rfl dX6_count_182
                                        · have hF := lm_brf hF c55
                                          refine lm_tableOut C (tgt := 183) dX6_count_1 (by have nc1 := lv_neT c1 (a := 0) (by decide); have nc4 := lv_neT c4 (a := 1) (by decide); have nc7 := lv_neT c7 (a := 2) (by decide); have nc9 := lv_neT c9 (a := 3) (by decide); have nc11 := lv_neT c11 (a := 4) (by decide); have nc13 := lv_neT c13 (a := 5) (by decide); have nc15 := lv_neT c15 (a := 6) (by decide); have nc19 := lv_neT c19 (a := 7) (by decide); have nc23 := lv_neT c23 (a := 8) (by decide); have nc27 := lv_neT c27 (a := 9) (by decide); have nc31 := lv_neT c31 (a := 10) (by decide); have nc35 := lv_neT c35 (a := 11) (by decide); have nc39 := lv_neT c39 (a := 12) (by decide); have nc43 := lv_neT c43 (a := 13) (by decide); have nc45 := lv_neT c45 (a := 14) (by decide); have nc47 := lv_neT c47 (a := 15) (by decide); have nc49 := lv_neT c49 (a := 16) (by decide); have nc51 := lv_neT c51 (a := 17) (by decide); have nc53 := lv_neT c53 (a := 18) (by decide); have nc55 := lv_neT c55 (a := 19) (by decide); omega) (by decide) ?_
                                          refine lm_iload_n C dX6_count_183 rfl 1 rfl rfl ?_
                                          refine lm_bipush C (v := (19 : Int32)) dX6_count_184 (by decide) rfl ?_
                                          obtain ⟨r57, qr57, hF⟩ := lm_bde hF
                                          refine lm_callSR C (n := 2) (m_X6_isWithin D z zo l   x1 (19 : Int32) r57 qr57) gX6_count_X6_isWithin rfl (by decide +kernel) ⟨Nat.le_of_ble_eq_true rfl, Nat.le_of_ble_eq_true rfl⟩ ⟨Nat.le_of_ble_eq_true rfl, Nat.le_of_ble_eq_true rfl⟩ (fun _ h => absurd h List.not_mem_nil) rfl rfl (Nat.le_of_ble_eq_true rfl) dX6_count_186 (st' := [.int r57]) rfl rfl ?_
                                          refine lm_if_eq C (tgt := 206) dX6_count_189 (by decide) rfl (fun c58 => ?_) (fun c58 => ?_)
                                          · have hF := lm_brt hF c58
                                            refine lm_iconst C (v := (-1 : Int32)) dX6_count_206 (by decide) rfl ?_
                                            cases hF
                                            exact lm_iretR C hr hk rfl dX6_count_207
                                          · have hF := lm_brf hF c58
                                            refine lm_aload_n C dX6_count_192 rfl 0 rfl rfl ?_
                                            refine lm_getf C (T := TX6) (N := 9) (v := .ref (a 0 0)) in6_X6_count 0 rfl rfl 0 (by decide) fl10_X6_count rfl rfl dX6_count_193 rfl ?_
                                            refine lm_iload_n C dX6_count_196 rfl 1 rfl rfl ?_
                                            refine lm_bipush C (v := (6 : Int32)) dX6_count_197 (by decide) rfl ?_
                                            refine lm_isub C dX6_count_199 rfl rfl ?_
                                            obtain ⟨r59, qr59, hF⟩ := lm_bde hF
                                            refine lm_callVR C (n := 1) (ci := 4) (m_X4_tally D z zo l (a 0) (h 0) (x1 - (6 : Int32)) r59 qr59) gX6_count_X4_tally rfl (by decide +kernel) ⟨Nat.le_of_ble_eq_true rfl, Nat.le_of_ble_eq_true rfl⟩ ⟨Nat.le_of_ble_eq_true rfl, Nat.le_of_ble_eq_true rfl⟩ 5 rfl rfl (lm_s0 z zo m a h) rfl rfl (Nat.le_of_ble_eq_true rfl) dX6_count_200 (st' := [.int r59]) rfl rfl ?_
                                            refine lm_goto C (tgt := 207) dX6_count_203 (by decide) ?_
                                            cases hF
                                            exact lm_iretR C hr hk rfl dX6_count_207
def F_X6_total (h : Nat → Hp) (x1 : Int32) : Option Int32 :=
  lm_bd (F_X6_isWithin x1 (1 : Int32)) fun r1 =>
  lm_br (¬ r1 = 0)
   (lm_br (¬ x1 = 0)
    (lm_bd (F_X4_totalByRows (h 0)) fun r4 =>
    some r4)
    (lm_bd (F_X4_totalByAnswers (h 0)) fun r5 =>
    some r5))
   (some (-1 : Int32))
theorem in6_X6_total : ∀ w ∈ u_ws RX6 TX6 9, w ∈ wsX6_total := by decide +kernel
theorem fl10_X6_total : Cond.fieldLink RX6 10 "LoopMemo" "now" "LLoopMemo$State;" ∈ wsX6_total := by decide +kernel
set_option maxRecDepth 100000 in
set_option maxHeartbeats 4000000 in
theorem m_X6_total (D : va_G) (z zo : ClassId) (l : Launch) (m : Nat → Nat) (a : Nat → Nat → Nat) (h : Nat → Hp) (x1 : Int32) (r : Int32)  (hF : F_X6_total h x1 = some r) : lm_CR D z zo l yX6_total wsX6_total 2 44 [.ref (m 0), .int x1] (lmW z zo m a h) (some (.int r)) := by
  refine lm_CR.of (by decide) rfl (Nat.le_of_ble_eq_true rfl) (own := RX6) rfl ?_
  intro p e s m_ args below meth c C hr hk
  show lm_St p l e ({ frames := 2, cells := 0, slots := 0, locals := 44 }) s m_ args below meth c D (fun _ => False) 2 0 0 (lm_EndR below (some (.int r)) args s) true (lmW z zo m a h) 0 [(0, .ref (m 0)), (1, .int x1)] []
  rw [F_X6_total] at hF
  refine lm_iload_n C dX6_total_0 rfl 1 rfl rfl ?_
  refine lm_iconst C (v := (1 : Int32)) dX6_total_1 (by decide) rfl ?_
  obtain ⟨r1, qr1, hF⟩ := lm_bde hF
  refine lm_callSR C (n := 2) (m_X6_isWithin D z zo l   x1 (1 : Int32) r1 qr1) gX6_total_X6_isWithin rfl (by decide +kernel) ⟨Nat.le_of_ble_eq_true rfl, Nat.le_of_ble_eq_true rfl⟩ ⟨Nat.le_of_ble_eq_true rfl, Nat.le_of_ble_eq_true rfl⟩ (fun _ h => absurd h List.not_mem_nil) rfl rfl (Nat.le_of_ble_eq_true rfl) dX6_total_2 (st' := [.int r1]) rfl rfl ?_
  refine lm_if_ne C (tgt := 10) dX6_total_5 (by decide) rfl (fun c2 => ?_) (fun c2 => ?_)
  · have hF := lm_brt hF c2
    refine lm_iload_n C dX6_total_10 rfl 1 rfl rfl ?_
    refine lm_if_ne C (tgt := 24) dX6_total_11 (by decide) rfl (fun c3 => ?_) (fun c3 => ?_)
    · have hF := lm_brt hF c3
      refine lm_aload_n C dX6_total_24 rfl 0 rfl rfl ?_
      refine lm_getf C (T := TX6) (N := 9) (v := .ref (a 0 0)) in6_X6_total 0 rfl rfl 0 (by decide) fl10_X6_total rfl rfl dX6_total_25 rfl ?_
      obtain ⟨r4, qr4, hF⟩ := lm_bde hF
      refine lm_callVR C (n := 0) (ci := 4) (m_X4_totalByRows D z zo l (a 0) (h 0)  r4 qr4) gX6_total_X4_totalByRows rfl (by decide +kernel) ⟨Nat.le_of_ble_eq_true rfl, Nat.le_of_ble_eq_true rfl⟩ ⟨Nat.le_of_ble_eq_true rfl, Nat.le_of_ble_eq_true rfl⟩ 5 rfl rfl (lm_s0 z zo m a h) rfl rfl (Nat.le_of_ble_eq_true rfl) dX6_total_28 (st' := [.int r4]) rfl rfl ?_
      cases hF
      exact lm_iretR C hr hk rfl dX6_total_31
    · have hF := lm_brf hF c3
      refine lm_aload_n C dX6_total_14 rfl 0 rfl rfl ?_
      refine lm_getf C (T := TX6) (N := 9) (v := .ref (a 0 0)) in6_X6_total 0 rfl rfl 0 (by decide) fl10_X6_total rfl rfl dX6_total_15 rfl ?_
      obtain ⟨r5, qr5, hF⟩ := lm_bde hF
      refine lm_callVR C (n := 0) (ci := 4) (m_X4_totalByAnswers D z zo l (a 0) (h 0)  r5 qr5) gX6_total_X4_totalByAnswers rfl (by decide +kernel) ⟨Nat.le_of_ble_eq_true rfl, Nat.le_of_ble_eq_true rfl⟩ ⟨Nat.le_of_ble_eq_true rfl, Nat.le_of_ble_eq_true rfl⟩ 5 rfl rfl (lm_s0 z zo m a h) rfl rfl (Nat.le_of_ble_eq_true rfl) dX6_total_18 (st' := [.int r5]) rfl rfl ?_
      refine lm_goto C (tgt := 31) dX6_total_21 (by decide) ?_
      cases hF
      exact lm_iretR C hr hk rfl dX6_total_31
  · have hF := lm_brf hF c2
    refine lm_iconst C (v := (-1 : Int32)) dX6_total_8 (by decide) rfl ?_
    cases hF
    exact lm_iretR C hr hk rfl dX6_total_9
