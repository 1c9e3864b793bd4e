def F_X6_add (h : Nat → Hp) (x1 x2 x3 : Int32) : Option (Int32 × (Nat → Hp)) :=
  lm_bd (F_X1_prepare h) fun h1 =>
  lm_b2 (F_X4_insertRow (h1 0) x1 x2 x3) fun r4 τ2 =>
  lm_lt (lm_uB h1 0 τ2) fun h3 =>
  lm_b2 (F_X1_commit h3 r4) fun r6 h5 =>
  some (r6, h5)
theorem in6_X6_add : ∀ w ∈ u_ws RX6 TX6 9, w ∈ wsX6_add := by decide +kernel
theorem fl25_X6_add : Cond.fieldLink RX6 25 "LoopMemo" "history" "LLoopMemo$History;" ∈ wsX6_add := by decide +kernel
theorem fl10_X6_add : Cond.fieldLink RX6 10 "LoopMemo" "now" "LLoopMemo$State;" ∈ wsX6_add := by decide +kernel
set_option maxRecDepth 100000 in
set_option maxHeartbeats 4000000 in
theorem m_X6_add (D : va_G) (z zo : ClassId) (l : Launch) (m : Nat → Nat) (a : Nat → Nat → Nat) (h : Nat → Hp) (x1 x2 x3 : Int32) (r : Int32) (h' : Nat → Hp) (hF : F_X6_add h x1 x2 x3 = some (r, h')) : lm_C D z zo l yX6_add wsX6_add 5 125 [.ref (m 0), .int x1, .int x2, .int x3] (lmW z zo m a h) (some (.int r)) (lmW z zo m a h') := by
  refine lm_C.of (by decide) rfl (Nat.le_of_ble_eq_true rfl) (own := RX6) rfl ?_
  intro p e s m_ args below meth c C hr hk hA
  show lm_St p l e ({ frames := 5, cells := 0, slots := 0, locals := 125 }) s m_ args below meth c D (va_A (lmW z zo m a h) s.heap.size) 4 0 0 (lm_End below D (some (.int r)) (lmW z zo m a h) (lmW z zo m a h') args s) false (lmW z zo m a h) 0 [(0, .ref (m 0)), (1, .int x1), (2, .int x2), (3, .int x3)] []
  rw [F_X6_add] at hF
  refine lm_aload_n C dX6_add_0 rfl 0 rfl rfl ?_
  refine lm_getf C (T := TX6) (N := 9) (v := .ref (m 3)) in6_X6_add 0 rfl rfl 3 (by decide) fl25_X6_add rfl rfl dX6_add_1 rfl ?_
  refine lm_aload_n C dX6_add_4 rfl 0 rfl rfl ?_
  refine lm_getf C (T := TX6) (N := 9) (v := .ref (a 0 0)) in6_X6_add 0 rfl rfl 0 (by decide) fl10_X6_add rfl rfl dX6_add_5 rfl ?_
  obtain ⟨h1, qh1, hF⟩ := lm_bde hF
  refine lm_callV C (n := 1) (ci := 1) (w' := (lmW z zo m a h1)) hA (m_X1_prepare D z zo l m a h  h1 qh1) gX6_add_X1_prepare rfl (by decide +kernel) ⟨Nat.le_of_ble_eq_true rfl, Nat.le_of_ble_eq_true rfl⟩ ⟨Nat.le_of_ble_eq_true rfl, Nat.le_of_ble_eq_true rfl⟩ 3 rfl rfl lm_pr lm_pr' rfl rfl (Nat.le_of_ble_eq_true rfl) dX6_add_8 (st' := []) rfl rfl ?_
  refine lm_aload_n C dX6_add_11 rfl 0 rfl rfl ?_
  refine lm_getf C (T := TX6) (N := 9) (v := .ref (m 3)) in6_X6_add 0 rfl rfl 3 (by decide) fl25_X6_add rfl rfl dX6_add_12 rfl ?_
  refine lm_aload_n C dX6_add_15 rfl 0 rfl rfl ?_
  refine lm_getf C (T := TX6) (N := 9) (v := .ref (a 0 0)) in6_X6_add 0 rfl rfl 0 (by decide) fl10_X6_add rfl rfl dX6_add_16 rfl ?_
  refine lm_iload_n C dX6_add_19 rfl 1 rfl rfl ?_
  refine lm_iload_n C dX6_add_20 rfl 2 rfl rfl ?_
  refine lm_iload_n C dX6_add_21 rfl 3 rfl rfl ?_
  obtain ⟨r4, τ2, qτ2, hF⟩ := lm_b2e hF
  obtain ⟨h3, eh3, hF⟩ := lm_lte hF
  refine lm_callV C (n := 3) (ci := 4) (w' := (lmW z zo m a h3)) hA (m_X4_insertRow D z zo l (a 0) (h1 0) x1 x2 x3 r4 τ2 qτ2) gX6_add_X4_insertRow rfl (by decide +kernel) ⟨Nat.le_of_ble_eq_true rfl, Nat.le_of_ble_eq_true rfl⟩ ⟨Nat.le_of_ble_eq_true rfl, Nat.le_of_ble_eq_true rfl⟩ 5 rfl rfl (lm_g0 z zo m a h1) (by rw [← eh3]; exact lm_p0 z zo m a h1 τ2) rfl rfl (Nat.le_of_ble_eq_true rfl) dX6_add_22 (st' := [.int r4, .ref (m 3)]) rfl rfl ?_
  obtain ⟨r6, h5, qh5, hF⟩ := lm_b2e hF
  refine lm_callV C (n := 1) (ci := 1) (w' := (lmW z zo m a h5)) hA (m_X1_commit D z zo l m a h3 r4 r6 h5 qh5) gX6_add_X1_commit rfl (by decide +kernel) ⟨Nat.le_of_ble_eq_true rfl, Nat.le_of_ble_eq_true rfl⟩ ⟨Nat.le_of_ble_eq_true rfl, Nat.le_of_ble_eq_true rfl⟩ 3 rfl rfl lm_pr lm_pr' rfl rfl (Nat.le_of_ble_eq_true rfl) dX6_add_25 (st' := [.int r6]) rfl rfl ?_
  cases hF
  exact lm_iret C hr hk rfl rfl dX6_add_28
def F_X6_drop (h : Nat → Hp) (x1 x2 : Int32) : Option (Int32 × (Nat → Hp)) :=
  lm_bd (F_X1_prepare h) fun h1 =>
  lm_b2 (F_X4_removeRow (h1 0) x1 x2) fun r4 τ2 =>
  lm_lt (lm_uB h1 0 τ2) fun h3 =>
  lm_b2 (F_X1_commit h3 r4) fun r6 h5 =>
  some (r6, h5)
theorem in6_X6_drop : ∀ w ∈ u_ws RX6 TX6 9, w ∈ wsX6_drop := by decide +kernel
theorem fl25_X6_drop : Cond.fieldLink RX6 25 "LoopMemo" "history" "LLoopMemo$History;" ∈ wsX6_drop := by decide +kernel
theorem fl10_X6_drop : Cond.fieldLink RX6 10 "LoopMemo" "now" "LLoopMemo$State;" ∈ wsX6_drop := by decide +kernel
set_option maxRecDepth 100000 in
set_option maxHeartbeats 4000000 in
theorem m_X6_drop (D : va_G) (z zo : ClassId) (l : Launch) (m : Nat → Nat) (a : Nat → Nat → Nat) (h : Nat → Hp) (x1 x2 : Int32) (r : Int32) (h' : Nat → Hp) (hF : F_X6_drop h x1 x2 = some (r, h')) : lm_C D z zo l yX6_drop wsX6_drop 5 125 [.ref (m 0), .int x1, .int x2] (lmW z zo m a h) (some (.int r)) (lmW z zo m a h') := by
  refine lm_C.of (by decide) rfl (Nat.le_of_ble_eq_true rfl) (own := RX6) rfl ?_
  intro p e s m_ args below meth c C hr hk hA
  show lm_St p l e ({ frames := 5, cells := 0, slots := 0, locals := 125 }) s m_ args below meth c D (va_A (lmW z zo m a h) s.heap.size) 3 0 0 (lm_End below D (some (.int r)) (lmW z zo m a h) (lmW z zo m a h') args s) false (lmW z zo m a h) 0 [(0, .ref (m 0)), (1, .int x1), (2, .int x2)] []
  rw [F_X6_drop] at hF
  refine lm_aload_n C dX6_drop_0 rfl 0 rfl rfl ?_
  refine lm_getf C (T := TX6) (N := 9) (v := .ref (m 3)) in6_X6_drop 0 rfl rfl 3 (by decide) fl25_X6_drop rfl rfl dX6_drop_1 rfl ?_
  refine lm_aload_n C dX6_drop_4 rfl 0 rfl rfl ?_
  refine lm_getf C (T := TX6) (N := 9) (v := .ref (a 0 0)) in6_X6_drop 0 rfl rfl 0 (by decide) fl10_X6_drop rfl rfl dX6_drop_5 rfl ?_
  obtain ⟨h1, qh1, hF⟩ := lm_bde hF
  refine lm_callV C (n := 1) (ci := 1) (w' := (lmW z zo m a h1)) hA (m_X1_prepare D z zo l m a h  h1 qh1) gX6_drop_X1_prepare rfl (by decide +kernel) ⟨Nat.le_of_ble_eq_true rfl, Nat.le_of_ble_eq_true rfl⟩ ⟨Nat.le_of_ble_eq_true rfl, Nat.le_of_ble_eq_true rfl⟩ 3 rfl rfl lm_pr lm_pr' rfl rfl (Nat.le_of_ble_eq_true rfl) dX6_drop_8 (st' := []) rfl rfl ?_
  refine lm_aload_n C dX6_drop_11 rfl 0 rfl rfl ?_
  refine lm_getf C (T := TX6) (N := 9) (v := .ref (m 3)) in6_X6_drop 0 rfl rfl 3 (by decide) fl25_X6_drop rfl rfl dX6_drop_12 rfl ?_
  refine lm_aload_n C dX6_drop_15 rfl 0 rfl rfl ?_
  refine lm_getf C (T := TX6) (N := 9) (v := .ref (a 0 0)) in6_X6_drop 0 rfl rfl 0 (by decide) fl10_X6_drop rfl rfl dX6_drop_16 rfl ?_
  refine lm_iload_n C dX6_drop_19 rfl 1 rfl rfl ?_
  refine lm_iload_n C dX6_drop_20 rfl 2 rfl rfl ?_
  obtain ⟨r4, τ2, qτ2, hF⟩ := lm_b2e hF
  obtain ⟨h3, eh3, hF⟩ := lm_lte hF
  refine lm_callV C (n := 2) (ci := 4) (w' := (lmW z zo m a h3)) hA (m_X4_removeRow D z zo l (a 0) (h1 0) x1 x2 r4 τ2 qτ2) gX6_drop_X4_removeRow rfl (by decide +kernel) ⟨Nat.le_of_ble_eq_true rfl, Nat.le_of_ble_eq_true rfl⟩ ⟨Nat.le_of_ble_eq_true rfl, Nat.le_of_ble_eq_true rfl⟩ 5 rfl rfl (lm_g0 z zo m a h1) (by rw [← eh3]; exact lm_p0 z zo m a h1 τ2) rfl rfl (Nat.le_of_ble_eq_true rfl) dX6_drop_21 (st' := [.int r4, .ref (m 3)]) rfl rfl ?_
  obtain ⟨r6, h5, qh5, hF⟩ := lm_b2e hF
  refine lm_callV C (n := 1) (ci := 1) (w' := (lmW z zo m a h5)) hA (m_X1_commit D z zo l m a h3 r4 r6 h5 qh5) gX6_drop_X1_commit rfl (by decide +kernel) ⟨Nat.le_of_ble_eq_true rfl, Nat.le_of_ble_eq_true rfl⟩ ⟨Nat.le_of_ble_eq_true rfl, Nat.le_of_ble_eq_true rfl⟩ 3 rfl rfl lm_pr lm_pr' rfl rfl (Nat.le_of_ble_eq_true rfl) dX6_drop_24 (st' := [.int r6]) rfl rfl ?_
  cases hF
  exact lm_iret C hr hk rfl rfl dX6_drop_27
def F_X6_change (h : Nat → Hp) (x1 x2 x3 : Int32) : Option (Int32 × (Nat → Hp)) :=
  lm_bd (F_X1_prepare h) fun h1 =>
  lm_b2 (F_X4_rewriteRow (h1 0) x1 x2 x3) fun r4 τ2 =>
  lm_lt (lm_uB h1 0 τ2) fun h3 =>
  lm_b2 (F_X1_commit h3 r4) fun r6 h5 =>
  some (r6, h5)
theorem in6_X6_change : ∀ w ∈ u_ws RX6 TX6 9, w ∈ wsX6_change := by decide +kernel
theorem fl25_X6_change : Cond.fieldLink RX6 25 "LoopMemo" "history" "LLoopMemo$History;" ∈ wsX6_change := by decide +kernel
theorem fl10_X6_change : Cond.fieldLink RX6 10 "LoopMemo" "now" "LLoopMemo$State;" ∈ wsX6_change := by decide +kernel
set_option maxRecDepth 100000 in
set_option maxHeartbeats 4000000 in
theorem m_X6_change (D : va_G) (z zo : ClassId) (l : Launch) (m : Nat → Nat) (a : Nat → Nat → Nat) (h : Nat → Hp) (x1 x2 x3 : Int32) (r : Int32) (h' : Nat → Hp) (hF : F_X6_change h x1 x2 x3 = some (r, h')) : lm_C D z zo l yX6_change wsX6_change 5 125 [.ref (m 0), .int x1, .int x2, .int x3] (lmW z zo m a h) (some (.int r)) (lmW z zo m a h') := by
  refine lm_C.of (by decide) rfl (Nat.le_of_ble_eq_true rfl) (own := RX6) rfl ?_
  intro p e s m_ args below meth c C hr hk hA
  show lm_St p l e ({ frames := 5, cells := 0, slots := 0, locals := 125 }) s m_ args below meth c D (va_A (lmW z zo m a h) s.heap.size) 4 0 0 (lm_End below D (some (.int r)) (lmW z zo m a h) (lmW z zo m a h') args s) false (lmW z zo m a h) 0 [(0, .ref (m 0)), (1, .int x1), (2, .int x2), (3, .int x3)] []
  rw [F_X6_change] at hF
  refine lm_aload_n C dX6_change_0 rfl 0 rfl rfl ?_
  refine lm_getf C (T := TX6) (N := 9) (v := .ref (m 3)) in6_X6_change 0 rfl rfl 3 (by decide) fl25_X6_change rfl rfl dX6_change_1 rfl ?_
  refine lm_aload_n C dX6_change_4 rfl 0 rfl rfl ?_
  refine lm_getf C (T := TX6) (N := 9) (v := .ref (a 0 0)) in6_X6_change 0 rfl rfl 0 (by decide) fl10_X6_change rfl rfl dX6_change_5 rfl ?_
  obtain ⟨h1, qh1, hF⟩ := lm_bde hF
  refine lm_callV C (n := 1) (ci := 1) (w' := (lmW z zo m a h1)) hA (m_X1_prepare D z zo l m a h  h1 qh1) gX6_change_X1_prepare rfl (by decide +kernel) ⟨Nat.le_of_ble_eq_true rfl, Nat.le_of_ble_eq_true rfl⟩ ⟨Nat.le_of_ble_eq_true rfl, Nat.le_of_ble_eq_true rfl⟩ 3 rfl rfl lm_pr lm_pr' rfl rfl (Nat.le_of_ble_eq_true rfl) dX6_change_8 (st' := []) rfl rfl ?_
  refine lm_aload_n C dX6_change_11 rfl 0 rfl rfl ?_
  refine lm_getf C (T := TX6) (N := 9) (v := .ref (m 3)) in6_X6_change 0 rfl rfl 3 (by decide) fl25_X6_change rfl rfl dX6_change_12 rfl ?_
  refine lm_aload_n C dX6_change_15 rfl 0 rfl rfl ?_
  refine lm_getf C (T := TX6) (N := 9) (v := .ref (a 0 0)) in6_X6_change 0 rfl rfl 0 (by decide) fl10_X6_change rfl rfl dX6_change_16 rfl ?_
  refine lm_iload_n C dX6_change_19 rfl 1 rfl rfl ?_
  refine lm_iload_n C dX6_change_20 rfl 2 rfl rfl ?_
  refine lm_iload_n C dX6_change_21 rfl 3 rfl rfl ?_
  obtain ⟨r4, τ2, qτ2, hF⟩ := lm_b2e hF
  obtain ⟨h3, eh3, hF⟩ := lm_lte hF
  refine lm_callV C (n := 3) (ci := 4) (w' := (lmW z zo m a h3)) hA (m_X4_rewriteRow D z zo l (a 0) (h1 0) x1 x2 x3 r4 τ2 qτ2) gX6_change_X4_rewriteRow rfl (by decide +kernel) ⟨Nat.le_of_ble_eq_true rfl, Nat.le_of_ble_eq_true rfl⟩ ⟨Nat.le_of_ble_eq_true rfl, Nat.le_of_ble_eq_true rfl⟩ 5 rfl rfl (lm_g0 z zo m a h1) (by rw [← eh3]; exact lm_p0 z zo m a h1 τ2) rfl rfl (Nat.le_of_ble_eq_true rfl) dX6_change_22 (st' := [.int r4, .ref (m 3)]) rfl rfl ?_
  obtain ⟨r6, h5, qh5, hF⟩ := lm_b2e hF
  refine lm_callV C (n := 1) (ci := 1) (w' := (lmW z zo m a h5)) hA (m_X1_commit D z zo l m a h3 r4 r6 h5 qh5) gX6_change_X1_commit rfl (by decide +kernel) ⟨Nat.le_of_ble_eq_true rfl, Nat.le_of_ble_eq_true rfl⟩ ⟨Nat.le_of_ble_eq_true rfl, Nat.le_of_ble_eq_true rfl⟩ 3 rfl rfl lm_pr lm_pr' rfl rfl (Nat.le_of_ble_eq_true rfl) dX6_change_25 (st' := [.int r6]) rfl rfl ?_
  cases hF
  exact lm_iret C hr hk rfl rfl dX6_change_28
def F_X6_step (h : Nat → Hp) (x1 : Int32) : Option (Int32 × (Nat → Hp)) :=
  lm_bd (F_X1_prepare h) fun h1 =>
  lm_b2 (F_X4_walk (h1 0) x1) fun r4 τ2 =>
  lm_lt (lm_uB h1 0 τ2) fun h3 =>
  lm_b2 (F_X1_commit h3 r4) fun r6 h5 =>
  some (r6, h5)
theorem in6_X6_step : ∀ w ∈ u_ws RX6 TX6 9, w ∈ wsX6_step := by decide +kernel
theorem fl25_X6_step : Cond.fieldLink RX6 25 "LoopMemo" "history" "LLoopMemo$History;" ∈ wsX6_step := by decide +kernel
theorem fl10_X6_step : Cond.fieldLink RX6 10 "LoopMemo" "now" "LLoopMemo$State;" ∈ wsX6_step := by decide +kernel
set_option maxRecDepth 100000 in
set_option maxHeartbeats 4000000 in
theorem m_X6_step (D : va_G) (z zo : ClassId) (l : Launch) (m : Nat → Nat) (a : Nat → Nat → Nat) (h : Nat → Hp) (x1 : Int32) (r : Int32) (h' : Nat → Hp) (hF : F_X6_step h x1 = some (r, h')) : lm_C D z zo l yX6_step wsX6_step 5 125 [.ref (m 0), .int x1] (lmW z zo m a h) (some (.int r)) (lmW z zo m a h') := by
  refine lm_C.of (by decide) rfl (Nat.le_of_ble_eq_true rfl) (own := RX6) rfl ?_
  intro p e s m_ args below meth c C hr hk hA
  show lm_St p l e ({ frames := 5, cells := 0, slots := 0, locals := 125 }) s m_ args below meth c D (va_A (lmW z zo m a h) s.heap.size) 2 0 0 (lm_End below D (some (.int r)) (lmW z zo m a h) (lmW z zo m a h') args s) false (lmW z zo m a h) 0 [(0, .ref (m 0)), (1, .int x1)] []
  rw [F_X6_step] at hF
  refine lm_aload_n C dX6_step_0 rfl 0 rfl rfl ?_
  refine lm_getf C (T := TX6) (N := 9) (v := .ref (m 3)) in6_X6_step 0 rfl rfl 3 (by decide) fl25_X6_step rfl rfl dX6_step_1 rfl ?_
  refine lm_aload_n C dX6_step_4 rfl 0 rfl rfl ?_
  refine lm_getf C (T := TX6) (N := 9) (v := .ref (a 0 0)) in6_X6_step 0 rfl rfl 0 (by decide) fl10_X6_step rfl rfl dX6_step_5 rfl ?_
  obtain ⟨h1, qh1, hF⟩ := lm_bde hF
  refine lm_callV C (n := 1) (ci := 1) (w' := (lmW z zo m a h1)) hA (m_X1_prepare D z zo l m a h  h1 qh1) gX6_step_X1_prepare rfl (by decide +kernel) ⟨Nat.le_of_ble_eq_true rfl, Nat.le_of_ble_eq_true rfl⟩ ⟨Nat.le_of_ble_eq_true rfl, Nat.le_of_ble_eq_true rfl⟩ 3 rfl rfl lm_pr lm_pr' rfl rfl (Nat.le_of_ble_eq_true rfl) dX6_step_8 (st' := []) rfl rfl ?_
  refine lm_aload_n C dX6_step_11 rfl 0 rfl rfl ?_
  refine lm_getf C (T := TX6) (N := 9) (v := .ref (m 3)) in6_X6_step 0 rfl rfl 3 (by decide) fl25_X6_step rfl rfl dX6_step_12 rfl ?_
  refine lm_aload_n C dX6_step_15 rfl 0 rfl rfl ?_
  refine lm_getf C (T := TX6) (N := 9) (v := .ref (a 0 0)) in6_X6_step 0 rfl rfl 0 (by decide) fl10_X6_step rfl rfl dX6_step_16 rfl ?_
  refine lm_iload_n C dX6_step_19 rfl 1 rfl rfl ?_
  obtain ⟨r4, τ2, qτ2, hF⟩ := lm_b2e hF
  obtain ⟨h3, eh3, hF⟩ := lm_lte hF
  refine lm_callV C (n := 1) (ci := 4) (w' := (lmW z zo m a h3)) hA (m_X4_walk D z zo l (a 0) (h1 0) x1 r4 τ2 qτ2) gX6_step_X4_walk rfl (by decide +kernel) ⟨Nat.le_of_ble_eq_true rfl, Nat.le_of_ble_eq_true rfl⟩ ⟨Nat.le_of_ble_eq_true rfl, Nat.le_of_ble_eq_true rfl⟩ 5 rfl rfl (lm_g0 z zo m a h1) (by rw [← eh3]; exact lm_p0 z zo m a h1 τ2) rfl rfl (Nat.le_of_ble_eq_true rfl) dX6_step_20 (st' := [.int r4, .ref (m 3)]) rfl rfl ?_
  obtain ⟨r6, h5, qh5, hF⟩ := lm_b2e hF
  refine lm_callV C (n := 1) (ci := 1) (w' := (lmW z zo m a h5)) hA (m_X1_commit D z zo l m a h3 r4 r6 h5 qh5) gX6_step_X1_commit rfl (by decide +kernel) ⟨Nat.le_of_ble_eq_true rfl, Nat.le_of_ble_eq_true rfl⟩ ⟨Nat.le_of_ble_eq_true rfl, Nat.le_of_ble_eq_true rfl⟩ 3 rfl rfl lm_pr lm_pr' rfl rfl (Nat.le_of_ble_eq_true rfl) dX6_step_23 (st' := [.int r6]) rfl rfl ?_
  cases hF
  exact lm_iret C hr hk rfl rfl dX6_step_26
def F_X6_again (h : Nat → Hp)  : Option (Int32 × (Nat → Hp)) :=
  lm_bd (F_X1_prepare h) fun h1 =>
  lm_b2 (F_X4_beginAgain (h1 0)) fun r4 τ2 =>
  lm_lt (lm_uB h1 0 τ2) fun h3 =>
  lm_b2 (F_X1_commit h3 r4) fun r6 h5 =>
  some (r6, h5)
theorem in6_X6_again : ∀ w ∈ u_ws RX6 TX6 9, w ∈ wsX6_again := by decide +kernel
theorem fl25_X6_again : Cond.fieldLink RX6 25 "LoopMemo" "history" "LLoopMemo$History;" ∈ wsX6_again := by decide +kernel
theorem fl10_X6_again : Cond.fieldLink RX6 10 "LoopMemo" "now" "LLoopMemo$State;" ∈ wsX6_again := by decide +kernel
set_option maxRecDepth 100000 in
set_option maxHeartbeats 4000000 in
theorem m_X6_again (D : va_G) (z zo : ClassId) (l : Launch) (m : Nat → Nat) (a : Nat → Nat → Nat) (h : Nat → Hp)  (r : Int32) (h' : Nat → Hp) (hF : F_X6_again h  = some (r, h')) : lm_C D z zo l yX6_again wsX6_again 5 125 [.ref (m 0)] (lmW z zo m a h) (some (.int r)) (lmW z zo m a h') := by
  refine lm_C.of (by decide) rfl (Nat.le_of_ble_eq_true rfl) (own := RX6) rfl ?_
  intro p e s m_ args below meth c C hr hk hA
  show lm_St p l e ({ frames := 5, cells := 0, slots := 0, locals := 125 }) s m_ args below meth c D (va_A (lmW z zo m a h) s.heap.size) 1 0 0 (lm_End below D (some (.int r)) (lmW z zo m a h) (lmW z zo m a h') args s) false (lmW z zo m a h) 0 [(0, .ref (m 0))] []
  rw [F_X6_again] at hF
  refine lm_aload_n C dX6_again_0 rfl 0 rfl rfl ?_
  refine lm_getf C (T := TX6) (N := 9) (v := .ref (m 3)) in6_X6_again 0 rfl rfl 3 (by decide) fl25_X6_again rfl rfl dX6_again_1 rfl ?_
  refine lm_aload_n C dX6_again_4 rfl 0 rfl rfl ?_
  refine lm_getf C (T := TX6) (N := 9) (v := .ref (a 0 0)) in6_X6_again 0 rfl rfl 0 (by decide) fl10_X6_again rfl rfl dX6_again_5 rfl ?_
  obtain ⟨h1, qh1, hF⟩ := lm_bde hF
  refine lm_callV C (n := 1) (ci := 1) (w' := (lmW z zo m a h1)) hA (m_X1_prepare D z zo l m a h  h1 qh1) gX6_again_X1_prepare rfl (by decide +kernel) ⟨Nat.le_of_ble_eq_true rfl, Nat.le_of_ble_eq_true rfl⟩ ⟨Nat.le_of_ble_eq_true rfl, Nat.le_of_ble_eq_true rfl⟩ 3 rfl rfl lm_pr lm_pr' rfl rfl (Nat.le_of_ble_eq_true rfl) dX6_again_8 (st' := []) rfl rfl ?_
  refine lm_aload_n C dX6_again_11 rfl 0 rfl rfl ?_
  refine lm_getf C (T := TX6) (N := 9) (v := .ref (m 3)) in6_X6_again 0 rfl rfl 3 (by decide) fl25_X6_again rfl rfl dX6_again_12 rfl ?_
  refine lm_aload_n C dX6_again_15 rfl 0 rfl rfl ?_
  refine lm_getf C (T := TX6) (N := 9) (v := .ref (a 0 0)) in6_X6_again 0 rfl rfl 0 (by decide) fl10_X6_again rfl rfl dX6_again_16 rfl ?_
  obtain ⟨r4, τ2, qτ2, hF⟩ := lm_b2e hF
  obtain ⟨h3, eh3, hF⟩ := lm_lte hF
  refine lm_callV C (n := 0) (ci := 4) (w' := (lmW z zo m a h3)) hA (m_X4_beginAgain D z zo l (a 0) (h1 0)  r4 τ2 qτ2) gX6_again_X4_beginAgain rfl (by decide +kernel) ⟨Nat.le_of_ble_eq_true rfl, Nat.le_of_ble_eq_true rfl⟩ ⟨Nat.le_of_ble_eq_true rfl, Nat.le_of_ble_eq_true rfl⟩ 5 rfl rfl (lm_g0 z zo m a h1) (by rw [← eh3]; exact lm_p0 z zo m a h1 τ2) rfl rfl (Nat.le_of_ble_eq_true rfl) dX6_again_19 (st' := [.int r4, .ref (m 3)]) rfl rfl ?_
  obtain ⟨r6, h5, qh5, hF⟩ := lm_b2e hF
  refine lm_callV C (n := 1) (ci := 1) (w' := (lmW z zo m a h5)) hA (m_X1_commit D z zo l m a h3 r4 r6 h5 qh5) gX6_again_X1_commit rfl (by decide +kernel) ⟨Nat.le_of_ble_eq_true rfl, Nat.le_of_ble_eq_true rfl⟩ ⟨Nat.le_of_ble_eq_true rfl, Nat.le_of_ble_eq_true rfl⟩ 3 rfl rfl lm_pr lm_pr' rfl rfl (Nat.le_of_ble_eq_true rfl) dX6_again_22 (st' := [.int r6]) rfl rfl ?_
  cases hF
  exact lm_iret C hr hk rfl rfl dX6_again_25
def F_X6_forget (h : Nat → Hp)  : Option (Int32 × (Nat → Hp)) :=
  lm_bd (F_X1_prepare h) fun h1 =>
  lm_b2 (F_X4_throwAllOut (h1 0)) fun r4 τ2 =>
  lm_lt (lm_uB h1 0 τ2) fun h3 =>
  lm_b2 (F_X1_commit h3 r4) fun r6 h5 =>
  some (r6, h5)
theorem in6_X6_forget : ∀ w ∈ u_ws RX6 TX6 9, w ∈ wsX6_forget := by decide +kernel
theorem fl25_X6_forget : Cond.fieldLink RX6 25 "LoopMemo" "history" "LLoopMemo$History;" ∈ wsX6_forget := by decide +kernel
theorem fl10_X6_forget : Cond.fieldLink RX6 10 "LoopMemo" "now" "LLoopMemo$State;" ∈ wsX6_forget := by decide +kernel
set_option maxRecDepth 100000 in
set_option maxHeartbeats 4000000 in
theorem m_X6_forget (D : va_G) (z zo : ClassId) (l : Launch) (m : Nat → Nat) (a : Nat → Nat → Nat) (h : Nat → Hp)  (r : Int32) (h' : Nat → Hp) (hF : F_X6_forget h  = some (r, h')) : lm_C D z zo l yX6_forget wsX6_forget 5 125 [.ref (m 0)] (lmW z zo m a h) (some (.int r)) (lmW z zo m a h') := by
  refine lm_C.of (by decide) rfl (Nat.le_of_ble_eq_true rfl) (own := RX6) rfl ?_
  intro p e s m_ args below meth c C hr hk hA
  show lm_St p l e ({ frames := 5, cells := 0, slots := 0, locals := 125 }) s m_ args below meth c D (va_A (lmW z zo m a h) s.heap.size) 1 0 0 (lm_End below D (some (.int r)) (lmW z zo m a h) (lmW z zo m a h') args s) false (lmW z zo m a h) 0 [(0, .ref (m 0))] []
  rw [F_X6_forget] at hF
  refine lm_aload_n C dX6_forget_0 rfl 0 rfl rfl ?_
  refine lm_getf C (T := TX6) (N := 9) (v := .ref (m 3)) in6_X6_forget 0 rfl rfl 3 (by decide) fl25_X6_forget rfl rfl dX6_forget_1 rfl ?_
  refine lm_aload_n C dX6_forget_4 rfl 0 rfl rfl ?_
  refine lm_getf C (T := TX6) (N := 9) (v := .ref (a 0 0)) in6_X6_forget 0 rfl rfl 0 (by decide) fl10_X6_forget rfl rfl dX6_forget_5 rfl ?_
  obtain ⟨h1, qh1, hF⟩ := lm_bde hF
  refine lm_callV C (n := 1) (ci := 1) (w' := (lmW z zo m a h1)) hA (m_X1_prepare D z zo l m a h  h1 qh1) gX6_forget_X1_prepare rfl (by decide +kernel) ⟨Nat.le_of_ble_eq_true rfl, Nat.le_of_ble_eq_true rfl⟩ ⟨Nat.le_of_ble_eq_true rfl, Nat.le_of_ble_eq_true rfl⟩ 3 rfl rfl lm_pr lm_pr' rfl rfl (Nat.le_of_ble_eq_true rfl) dX6_forget_8 (st' := []) rfl rfl ?_
  refine lm_aload_n C dX6_forget_11 rfl 0 rfl rfl ?_
  refine lm_getf C (T := TX6) (N := 9) (v := .ref (m 3)) in6_X6_forget 0 rfl rfl 3 (by decide) fl25_X6_forget rfl rfl dX6_forget_12 rfl ?_
  refine lm_aload_n C dX6_forget_15 rfl 0 rfl rfl ?_
  refine lm_getf C (T := TX6) (N := 9) (v := .ref (a 0 0)) in6_X6_forget 0 rfl rfl 0 (by decide) fl10_X6_forget rfl rfl dX6_forget_16 rfl ?_
  obtain ⟨r4, τ2, qτ2, hF⟩ := lm_b2e hF
  obtain ⟨h3, eh3, hF⟩ := lm_lte hF
  refine lm_callV C (n := 0) (ci := 4) (w' := (lmW z zo m a h3)) hA (m_X4_throwAllOut D z zo l (a 0) (h1 0)  r4 τ2 qτ2) gX6_forget_X4_throwAllOut rfl (by decide +kernel) ⟨Nat.le_of_ble_eq_true rfl, Nat.le_of_ble_eq_true rfl⟩ ⟨Nat.le_of_ble_eq_true rfl, Nat.le_of_ble_eq_true rfl⟩ 5 rfl rfl (lm_g0 z zo m a h1) (by rw [← eh3]; exact lm_p0 z zo m a h1 τ2) rfl rfl (Nat.le_of_ble_eq_true rfl) dX6_forget_19 (st' := [.int r4, .ref (m 3)]) rfl rfl ?_
  obtain ⟨r6, h5, qh5, hF⟩ := lm_b2e hF
  refine lm_callV C (n := 1) (ci := 1) (w' := (lmW z zo m a h5)) hA (m_X1_commit D z zo l m a h3 r4 r6 h5 qh5) gX6_forget_X1_commit rfl (by decide +kernel) ⟨Nat.le_of_ble_eq_true rfl, Nat.le_of_ble_eq_true rfl⟩ ⟨Nat.le_of_ble_eq_true rfl, Nat.le_of_ble_eq_true rfl⟩ 3 rfl rfl lm_pr lm_pr' rfl rfl (Nat.le_of_ble_eq_true rfl) dX6_forget_22 (st' := [.int r6]) rfl rfl ?_
  cases hF
  exact lm_iret C hr hk rfl rfl dX6_forget_25
def F_X6_set (h : Nat → Hp) (x1 x2 : Int32) : Option (Int32 × (Nat → Hp)) :=
  lm_bd (F_X1_prepare h) fun h1 =>
  lm_b2 (F_X4_adjust (h1 0) x1 x2) fun r4 τ2 =>
  lm_lt (lm_uB h1 0 τ2) fun h3 =>
  lm_b2 (F_X1_commit h3 r4) fun r6 h5 =>
  some (r6, h5)
theorem in6_X6_set : ∀ w ∈ u_ws RX6 TX6 9, w ∈ wsX6_set := by decide +kernel
theorem fl25_X6_set : Cond.fieldLink RX6 25 "LoopMemo" "history" "LLoopMemo$History;" ∈ wsX6_set := by decide +kernel
theorem fl10_X6_set : Cond.fieldLink RX6 10 "LoopMemo" "now" "LLoopMemo$State;" ∈ wsX6_set := by decide +kernel
set_option maxRecDepth 100000 in
set_option maxHeartbeats 4000000 in
theorem m_X6_set (D : va_G) (z zo : ClassId) (l : Launch) (m : Nat → Nat) (a : Nat → Nat → Nat) (h : Nat → Hp) (x1 x2 : Int32) (r : Int32) (h' : Nat → Hp) (hF : F_X6_set h x1 x2 = some (r, h')) : lm_C D z zo l yX6_set wsX6_set 5 125 [.ref (m 0), .int x1, .int x2] (lmW z zo m a h) (some (.int r)) (lmW z zo m a h') := by
  refine lm_C.of (by decide) rfl (Nat.le_of_ble_eq_true rfl) (own := RX6) rfl ?_
  intro p e s m_ args below meth c C hr hk hA
  show lm_St p l e ({ frames := 5, cells := 0, slots := 0, locals := 125 }) s m_ args below meth c D (va_A (lmW z zo m a h) s.heap.size) 3 0 0 (lm_End below D (some (.int r)) (lmW z zo m a h) (lmW z zo m a h') args s) false (lmW z zo m a h) 0 [(0, .ref (m 0)), (1, .int x1), (2, .int x2)] []
  rw [F_X6_set] at hF
  refine lm_aload_n C dX6_set_0 rfl 0 rfl rfl ?_
  refine lm_getf C (T := TX6) (N := 9) (v := .ref (m 3)) in6_X6_set 0 rfl rfl 3 (by decide) fl25_X6_set rfl rfl dX6_set_1 rfl ?_
  refine lm_aload_n C dX6_set_4 rfl 0 rfl rfl ?_
  refine lm_getf C (T := TX6) (N := 9) (v := .ref (a 0 0)) in6_X6_set 0 rfl rfl 0 (by decide) fl10_X6_set rfl rfl dX6_set_5 rfl ?_
  obtain ⟨h1, qh1, hF⟩ := lm_bde hF
  refine lm_callV C (n := 1) (ci := 1) (w' := (lmW z zo m a h1)) hA (m_X1_prepare D z zo l m a h  h1 qh1) gX6_set_X1_prepare rfl (by decide +kernel) ⟨Nat.le_of_ble_eq_true rfl, Nat.le_of_ble_eq_true rfl⟩ ⟨Nat.le_of_ble_eq_true rfl, Nat.le_of_ble_eq_true rfl⟩ 3 rfl rfl lm_pr lm_pr' rfl rfl (Nat.le_of_ble_eq_true rfl) dX6_set_8 (st' := []) rfl rfl ?_
  refine lm_aload_n C dX6_set_11 rfl 0 rfl rfl ?_
  refine lm_getf C (T := TX6) (N := 9) (v := .ref (m 3)) in6_X6_set 0 rfl rfl 3 (by decide) fl25_X6_set rfl rfl dX6_set_12 rfl ?_
  refine lm_aload_n C dX6_set_15 rfl 0 rfl rfl ?_
  refine lm_getf C (T := TX6) (N := 9) (v := .ref (a 0 0)) in6_X6_set 0 rfl rfl 0 (by decide) fl10_X6_set rfl rfl dX6_set_16 rfl ?_
  refine lm_iload_n C dX6_set_19 rfl 1 rfl rfl ?_
  refine lm_iload_n C dX6_set_20 rfl 2 rfl rfl ?_
  obtain ⟨r4, τ2, qτ2, hF⟩ := lm_b2e hF
  obtain ⟨h3, eh3, hF⟩ := lm_lte hF
  refine lm_callV C (n := 2) (ci := 4) (w' := (lmW z zo m a h3)) hA (m_X4_adjust D z zo l (a 0) (h1 0) x1 x2 r4 τ2 qτ2) gX6_set_X4_adjust rfl (by decide +kernel) ⟨Nat.le_of_ble_eq_true rfl, Nat.le_of_ble_eq_true rfl⟩ ⟨Nat.le_of_ble_eq_true rfl, Nat.le_of_ble_eq_true rfl⟩ 5 rfl rfl (lm_g0 z zo m a h1) (by rw [← eh3]; exact lm_p0 z zo m a h1 τ2) rfl rfl (Nat.le_of_ble_eq_true rfl) dX6_set_21 (st' := [.int r4, .ref (m 3)]) rfl rfl ?_
  obtain ⟨r6, h5, qh5, hF⟩ := lm_b2e hF
  refine lm_callV C (n := 1) (ci := 1) (w' := (lmW z zo m a h5)) hA (m_X1_commit D z zo l m a h3 r4 r6 h5 qh5) gX6_set_X1_commit rfl (by decide +kernel) ⟨Nat.le_of_ble_eq_true rfl, Nat.le_of_ble_eq_true rfl⟩ ⟨Nat.le_of_ble_eq_true rfl, Nat.le_of_ble_eq_true rfl⟩ 3 rfl rfl lm_pr lm_pr' rfl rfl (Nat.le_of_ble_eq_true rfl) dX6_set_24 (st' := [.int r6]) rfl rfl ?_
  cases hF
  exact lm_iret C hr hk rfl rfl dX6_set_27
def F_X6_append (h : Nat → Hp) (x1 : Int32) : Option (Int32 × (Nat → Hp)) :=
  lm_b2 (F_X3_push (lm_sh 1 (h 8)) x1) fun r3 τ1 =>
  lm_lt (lm_uB h 8 (lm_sb (h 8) 1 2 τ1)) fun h2 =>
  some (r3, h2)
theorem in6_X6_append : ∀ w ∈ u_ws RX6 TX6 9, w ∈ wsX6_append := by decide +kernel
theorem fl32_X6_append : Cond.fieldLink RX6 32 "LoopMemo" "pad" "LLoopMemo$Pad;" ∈ wsX6_append := by decide +kernel
set_option maxRecDepth 100000 in
set_option maxHeartbeats 4000000 in
theorem m_X6_append (D : va_G) (z zo : ClassId) (l : Launch) (m : Nat → Nat) (a : Nat → Nat → Nat) (h : Nat → Hp) (x1 : Int32) (r : Int32) (h' : Nat → Hp) (hF : F_X6_append h x1 = some (r, h')) : lm_C D z zo l yX6_append wsX6_append 1 21 [.ref (m 0), .int x1] (lmW z zo m a h) (some (.int r)) (lmW z zo m a h') := by
  refine lm_C.of (by decide) rfl (Nat.le_of_ble_eq_true rfl) (own := RX6) rfl ?_
  intro p e s m_ args below meth c C hr hk hA
  show lm_St p l e ({ frames := 1, cells := 0, slots := 0, locals := 21 }) s m_ args below meth c D (va_A (lmW z zo m a h) s.heap.size) 2 0 0 (lm_End below D (some (.int r)) (lmW z zo m a h) (lmW z zo m a h') args s) false (lmW z zo m a h) 0 [(0, .ref (m 0)), (1, .int x1)] []
  rw [F_X6_append] at hF
  refine lm_aload_n C dX6_append_0 rfl 0 rfl rfl ?_
  refine lm_getf C (T := TX6) (N := 9) (v := .ref (m 1)) in6_X6_append 0 rfl rfl 4 (by decide) fl32_X6_append rfl rfl dX6_append_1 rfl ?_
  refine lm_iload_n C dX6_append_4 rfl 1 rfl rfl ?_
  obtain ⟨r3, τ1, qτ1, hF⟩ := lm_b2e hF
  obtain ⟨h2, eh2, hF⟩ := lm_lte hF
  refine lm_callV C (n := 1) (ci := 3) (w' := (lmW z zo m a h2)) hA (m_X3_push D z zo l (lm_sh 1 m) (lm_sh 1 (h 8)) x1 r3 τ1 qτ1) gX6_append_X3_push rfl (by decide +kernel) ⟨Nat.le_of_ble_eq_true rfl, Nat.le_of_ble_eq_true rfl⟩ ⟨Nat.le_of_ble_eq_true rfl, Nat.le_of_ble_eq_true rfl⟩ 1 rfl rfl (lm_gP z zo m a h) (by rw [← eh2]; exact lm_pP z zo m a h τ1) rfl rfl (Nat.le_of_ble_eq_true rfl) dX6_append_5 (st' := [.int r3]) rfl rfl ?_
  cases hF
  exact lm_iret C hr hk rfl rfl dX6_append_8
def F_X6_clear (h : Nat → Hp)  : Option (Int32 × (Nat → Hp)) :=
  lm_b2 (F_X3_empty (lm_sh 1 (h 8))) fun r3 τ1 =>
  lm_lt (lm_uB h 8 (lm_sb (h 8) 1 2 τ1)) fun h2 =>
  some (r3, h2)
theorem in6_X6_clear : ∀ w ∈ u_ws RX6 TX6 9, w ∈ wsX6_clear := by decide +kernel
theorem fl32_X6_clear : Cond.fieldLink RX6 32 "LoopMemo" "pad" "LLoopMemo$Pad;" ∈ wsX6_clear := by decide +kernel
set_option maxRecDepth 100000 in
set_option maxHeartbeats 4000000 in
theorem m_X6_clear (D : va_G) (z zo : ClassId) (l : Launch) (m : Nat → Nat) (a : Nat → Nat → Nat) (h : Nat → Hp)  (r : Int32) (h' : Nat → Hp) (hF : F_X6_clear h  = some (r, h')) : lm_C D z zo l yX6_clear wsX6_clear 1 21 [.ref (m 0)] (lmW z zo m a h) (some (.int r)) (lmW z zo m a h') := by
  refine lm_C.of (by decide) rfl (Nat.le_of_ble_eq_true rfl) (own := RX6) rfl ?_
  intro p e s m_ args below meth c C hr hk hA
  show lm_St p l e ({ frames := 1, cells := 0, slots := 0, locals := 21 }) s m_ args below meth c D (va_A (lmW z zo m a h) s.heap.size) 1 0 0 (lm_End below D (some (.int r)) (lmW z zo m a h) (lmW z zo m a h') args s) false (lmW z zo m a h) 0 [(0, .ref (m 0))] []
  rw [F_X6_clear] at hF
  refine lm_aload_n C dX6_clear_0 rfl 0 rfl rfl ?_
  refine lm_getf C (T := TX6) (N := 9) (v := .ref (m 1)) in6_X6_clear 0 rfl rfl 4 (by decide) fl32_X6_clear rfl rfl dX6_clear_1 rfl ?_
  obtain ⟨r3, τ1, qτ1, hF⟩ := lm_b2e hF
  obtain ⟨h2, eh2, hF⟩ := lm_lte hF
  refine lm_callV C (n := 0) (ci := 3) (w' := (lmW z zo m a h2)) hA (m_X3_empty D z zo l (lm_sh 1 m) (lm_sh 1 (h 8))  r3 τ1 qτ1) gX6_clear_X3_empty rfl (by decide +kernel) ⟨Nat.le_of_ble_eq_true rfl, Nat.le_of_ble_eq_true rfl⟩ ⟨Nat.le_of_ble_eq_true rfl, Nat.le_of_ble_eq_true rfl⟩ 1 rfl rfl (lm_gP z zo m a h) (by rw [← eh2]; exact lm_pP z zo m a h τ1) rfl rfl (Nat.le_of_ble_eq_true rfl) dX6_clear_4 (st' := [.int r3]) rfl rfl ?_
  cases hF
  exact lm_iret C hr hk rfl rfl dX6_clear_7
def F_X6_fault (h : Nat → Hp) (x1 : Int32) : Option (Int32 × (Nat → Hp)) :=
  lm_bd (F_X6_isWithin x1 (1 : Int32)) fun r1 =>
  lm_br (r1 = 0)
   (some ((-1 : Int32), h))
   (lm_br (¬ x1 = (1 : Int32))
    (lm_b2 (F_X3_findFault (lm_sh 1 (h 8)) (0 : Int32)) fun r6 τ4 =>
    lm_lt (lm_uB h 8 (lm_sb (h 8) 1 2 τ4)) fun h5 =>
    some (r6, h5))
    (lm_b2 (F_X3_findFault (lm_sh 1 (h 8)) (1 : Int32)) fun r9 τ7 =>
    lm_lt (lm_uB h 8 (lm_sb (h 8) 1 2 τ7)) fun h8 =>
    some (r9, h8)))
theorem in6_X6_fault : ∀ w ∈ u_ws RX6 TX6 9, w ∈ wsX6_fault := by decide +kernel
theorem fl32_X6_fault : Cond.fieldLink RX6 32 "LoopMemo" "pad" "LLoopMemo$Pad;" ∈ wsX6_fault := by decide +kernel
set_option maxRecDepth 100000 in
set_option maxHeartbeats 4000000 in
theorem m_X6_fault (D : va_G) (z zo : ClassId) (l : Launch) (m : Nat → Nat) (a : Nat → Nat → Nat) (h : Nat → Hp) (x1 : Int32) (r : Int32) (h' : Nat → Hp) (hF : F_X6_fault h x1 = some (r, h')) : lm_C D z zo l yX6_fault wsX6_fault 6 126 [.ref (m 0), .int x1] (lmW z zo m a h) (some (.int r)) (lmW z zo m a h') := by
  refine lm_C.of (by decide) rfl (Nat.le_of_ble_eq_true rfl) (own := RX6) rfl ?_
  intro p e s m_ args below meth c C hr hk hA
  show lm_St p l e ({ frames := 6, cells := 0, slots := 0, locals := 126 }) s m_ args below meth c D (va_A (lmW z zo m a h) s.heap.size) 2 0 0 (lm_End below D (some (.int r)) (lmW z zo m a h) (lmW z zo m a h') args s) false (lmW z zo m a h) 0 [(0, .ref (m 0)), (1, .int x1)] []
  rw [F_X6_fault] at hF
  refine lm_iload_n C dX6_fault_0 rfl 1 rfl rfl ?_
  refine lm_iconst C (v := (1 : Int32)) dX6_fault_1 (by decide) rfl ?_
  obtain ⟨r1, qr1, hF⟩ := lm_bde hF
  refine lm_callSR C (n := 2) (m_X6_isWithin D z zo l   x1 (1 : Int32) r1 qr1) gX6_fault_X6_isWithin rfl (by decide +kernel) ⟨Nat.le_of_ble_eq_true rfl, Nat.le_of_ble_eq_true rfl⟩ ⟨Nat.le_of_ble_eq_true rfl, Nat.le_of_ble_eq_true rfl⟩ (fun _ h => absurd h List.not_mem_nil) rfl rfl (Nat.le_of_ble_eq_true rfl) dX6_fault_2 (st' := [.int r1]) rfl rfl ?_
  refine lm_if_eq C (tgt := 28) dX6_fault_5 (by decide) rfl (fun c2 => ?_) (fun c2 => ?_)
  · have hF := lm_brt hF c2
    refine lm_iconst C (v := (-1 : Int32)) dX6_fault_28 (by decide) rfl ?_
    cases hF
    exact lm_iret C hr hk rfl rfl dX6_fault_29
  · have hF := lm_brf hF c2
    refine lm_aload_n C dX6_fault_8 rfl 0 rfl rfl ?_
    refine lm_getf C (T := TX6) (N := 9) (v := .ref (m 1)) in6_X6_fault 0 rfl rfl 4 (by decide) fl32_X6_fault rfl rfl dX6_fault_9 rfl ?_
    refine lm_iload_n C dX6_fault_12 rfl 1 rfl rfl ?_
    refine lm_iconst C (v := (1 : Int32)) dX6_fault_13 (by decide) rfl ?_
    refine lm_icmp_ne C (tgt := 21) dX6_fault_14 (by decide) rfl (fun c3 => ?_) (fun c3 => ?_)
    · have hF := lm_brt hF c3
      refine lm_iconst C (v := (0 : Int32)) dX6_fault_21 (by decide) rfl ?_
      obtain ⟨r6, τ4, qτ4, hF⟩ := lm_b2e hF
      obtain ⟨h5, eh5, hF⟩ := lm_lte hF
      refine lm_callV C (n := 1) (ci := 3) (w' := (lmW z zo m a h5)) hA (m_X3_findFault D z zo l (lm_sh 1 m) (lm_sh 1 (h 8)) (0 : Int32) r6 τ4 qτ4) gX6_fault_X3_findFault rfl (by decide +kernel) ⟨Nat.le_of_ble_eq_true rfl, Nat.le_of_ble_eq_true rfl⟩ ⟨Nat.le_of_ble_eq_true rfl, Nat.le_of_ble_eq_true rfl⟩ 1 rfl rfl (lm_gP z zo m a h) (by rw [← eh5]; exact lm_pP z zo m a h τ4) rfl rfl (Nat.le_of_ble_eq_true rfl) dX6_fault_22 (st' := [.int r6]) rfl rfl ?_
      refine lm_goto C (tgt := 29) dX6_fault_25 (by decide) ?_
      cases hF
      exact lm_iret C hr hk rfl rfl dX6_fault_29
    · have hF := lm_brf hF c3
      refine lm_iconst C (v := (1 : Int32)) dX6_fault_17 (by decide) rfl ?_
      refine lm_goto C (tgt := 22) dX6_fault_18 (by decide) ?_
      obtain ⟨r9, τ7, qτ7, hF⟩ := lm_b2e hF
      obtain ⟨h8, eh8, hF⟩ := lm_lte hF
      refine lm_callV C (n := 1) (ci := 3) (w' := (lmW z zo m a h8)) hA (m_X3_findFault D z zo l (lm_sh 1 m) (lm_sh 1 (h 8)) (1 : Int32) r9 τ7 qτ7) gX6_fault_X3_findFault rfl (by decide +kernel) ⟨Nat.le_of_ble_eq_true rfl, Nat.le_of_ble_eq_true rfl⟩ ⟨Nat.le_of_ble_eq_true rfl, Nat.le_of_ble_eq_true rfl⟩ 1 rfl rfl (lm_gP z zo m a h) (by rw [← eh8]; exact lm_pP z zo m a h τ7) rfl rfl (Nat.le_of_ble_eq_true rfl) dX6_fault_22 (st' := [.int r9]) rfl rfl ?_
      refine lm_goto C (tgt := 29) dX6_fault_25 (by decide) ?_
      cases hF
      exact lm_iret C hr hk rfl rfl dX6_fault_29
def F_X6_fill_L66 : Nat → (Nat → Hp) → Int32 → Int32 → Int32 → Option (Int32 × (Nat → Hp))
  | 0, _, _, _, _ => none
  | n + 1, hx, x1, x2, x3 =>
    lm_br (x2 ≤ x3)
     (lm_b2 (F_X3_empty (lm_sh 1 (hx 8))) fun r15 τ13 =>
     lm_lt (lm_uB hx 8 (lm_sb (hx 8) 1 2 τ13)) fun h14 =>
     lm_br (x1 = 0)
      (lm_bd (F_X5_size (lm_sh 1 (h14 0))) fun r17 =>
      lm_b2 (F_X1_commit h14 r17) fun r19 h18 =>
      some (r19, h18))
      (lm_bd (F_X5_size (lm_sh 4 (h14 0))) fun r20 =>
      lm_b2 (F_X1_commit h14 r20) fun r22 h21 =>
      some (r22, h21)))
     (lm_b2 (F_X3_next (lm_sh 1 (hx 8))) fun r25 τ23 =>
     lm_lt (lm_uB hx 8 (lm_sb (hx 8) 1 2 τ23)) fun h24 =>
     lm_br (r25 = 0)
      (lm_b2 (F_X3_empty (lm_sh 1 (h24 8))) fun r29 τ27 =>
      lm_lt (lm_uB h24 8 (lm_sb (h24 8) 1 2 τ27)) fun h28 =>
      lm_br (x1 = 0)
       (lm_bd (F_X5_size (lm_sh 1 (h28 0))) fun r31 =>
       lm_b2 (F_X1_commit h28 r31) fun r33 h32 =>
       some (r33, h32))
       (lm_bd (F_X5_size (lm_sh 4 (h28 0))) fun r34 =>
       lm_b2 (F_X1_commit h28 r34) fun r36 h35 =>
       some (r36, h35)))
      (lm_bd (F_X3_first (lm_sh 1 (h24 8))) fun r37 =>
      lm_bd (F_X3_second (lm_sh 1 (h24 8))) fun r38 =>
      lm_b2 (F_X4_insertRow (h24 0) x1 r37 r38) fun r41 τ39 =>
      lm_lt (lm_uB h24 0 τ39) fun h40 =>
      F_X6_fill_L66 n h40 x1 x2 (x3 + (1 : Int32))))
def F_X6_fill (h : Nat → Hp) (x1 : Int32) : Option (Int32 × (Nat → Hp)) :=
  lm_b2 (F_X3_findFault (lm_sh 1 (h 8)) (0 : Int32)) fun r3 τ1 =>
  lm_lt (lm_uB h 8 (lm_sb (h 8) 1 2 τ1)) fun h2 =>
  lm_br (r3 = (-4 : Int32))
   (lm_bd (F_X3_items (lm_sh 1 (h2 8))) fun r5 =>
   lm_br (x1 = 0)
    (lm_bd (F_X5_size (lm_sh 1 (h2 0))) fun r7 =>
    lm_br ((r7 + r5) ≤ (20 : Int32))
     (lm_bd (F_X1_prepare h2) fun h9 =>
     lm_bd (F_X3_open (lm_sh 1 (h9 8)) (0 : Int32)) fun τ10 =>
     lm_lt (lm_uB h9 8 (lm_sb (h9 8) 1 2 τ10)) fun h11 =>
     F_X6_fill_L66 1000 h11 x1 r5 (0 : Int32))
     (some ((-3 : Int32), h2)))
    (lm_bd (F_X5_size (lm_sh 4 (h2 0))) fun r42 =>
    lm_br ((r42 + r5) ≤ (20 : Int32))
     (lm_bd (F_X1_prepare h2) fun h44 =>
     lm_bd (F_X3_open (lm_sh 1 (h44 8)) (0 : Int32)) fun τ45 =>
     lm_lt (lm_uB h44 8 (lm_sb (h44 8) 1 2 τ45)) fun h46 =>
     F_X6_fill_L66 1000 h46 x1 r5 (0 : Int32))
     (some ((-3 : Int32), h2))))
   (some ((-2 : Int32), h2))
theorem in6_X6_fill : ∀ w ∈ u_ws RX6 TX6 9, w ∈ wsX6_fill := by decide +kernel
theorem fl32_X6_fill : Cond.fieldLink RX6 32 "LoopMemo" "pad" "LLoopMemo$Pad;" ∈ wsX6_fill := by decide +kernel
theorem fl10_X6_fill : Cond.fieldLink RX6 10 "LoopMemo" "now" "LLoopMemo$State;" ∈ wsX6_fill := by decide +kernel
theorem fl25_X6_fill : Cond.fieldLink RX6 25 "LoopMemo" "history" "LLoopMemo$History;" ∈ wsX6_fill := by decide +kernel
set_option maxRecDepth 100000 in
set_option maxHeartbeats 4000000 in
theorem m_X6_fill (D : va_G) (z zo : ClassId) (l : Launch) (m : Nat → Nat) (a : Nat → Nat → Nat) (h : Nat → Hp) (x1 : Int32) (r : Int32) (h' : Nat → Hp) (hF : F_X6_fill h x1 = some (r, h')) : lm_C D z zo l yX6_fill wsX6_fill 6 126 [.ref (m 0), .int x1] (lmW z zo m a h) (some (.int r)) (lmW z zo m a h') := by
  refine lm_C.of (by decide) rfl (Nat.le_of_ble_eq_true rfl) (own := RX6) rfl ?_
  intro p e s m_ args below meth c C hr hk hA
  have loop_66 : ∀ (n : Nat) (hx : Nat → Hp) (x1 : Int32) (x2 : Int32) (x3 : Int32), F_X6_fill_L66 n hx x1 x2 x3 = some (r, h') → lm_St p l e ({ frames := 6, cells := 0, slots := 0, locals := 126 }) s m_ args below meth c D (va_A (lmW z zo m a h) s.heap.size) 4 0 0 (lm_End below D (some (.int r)) (lmW z zo m a h) (lmW z zo m a h') args s) false (lmW z zo m a hx) 66 [(0, .ref (m 0)), (1, .int x1), (2, .int x2), (3, .int x3)] [] := by
    intro n
    induction n with
    | zero => intro hx x1 x2 x3 hF; cases (show (none : Option _) = some _ from hF)
    | succ n ih =>
      intro hx x1 x2 x3 hF
      rw [F_X6_fill_L66] at hF
      refine lm_iload_n C dX6_fill_66 rfl 3 rfl rfl ?_
      refine lm_iload_n C dX6_fill_67 rfl 2 rfl rfl ?_
      refine lm_icmp_ge C (tgt := 110) dX6_fill_68 (by decide) rfl (fun c12 => ?_) (fun c12 => ?_)
      · have hF := lm_brt hF c12
        refine lm_aload_n C dX6_fill_110 rfl 0 rfl rfl ?_
        refine lm_getf C (T := TX6) (N := 9) (v := .ref (m 1)) in6_X6_fill 0 rfl rfl 4 (by decide) fl32_X6_fill rfl rfl dX6_fill_111 rfl ?_
        obtain ⟨r15, τ13, qτ13, hF⟩ := lm_b2e hF
        obtain ⟨h14, eh14, hF⟩ := lm_lte hF
        refine lm_callV C (n := 0) (ci := 3) (w' := (lmW z zo m a h14)) hA (m_X3_empty D z zo l (lm_sh 1 m) (lm_sh 1 (hx 8))  r15 τ13 qτ13) gX6_fill_X3_empty rfl (by decide +kernel) ⟨Nat.le_of_ble_eq_true rfl, Nat.le_of_ble_eq_true rfl⟩ ⟨Nat.le_of_ble_eq_true rfl, Nat.le_of_ble_eq_true rfl⟩ 1 rfl rfl (lm_gP z zo m a hx) (by rw [← eh14]; exact lm_pP z zo m a hx τ13) rfl rfl (Nat.le_of_ble_eq_true rfl) dX6_fill_114 (st' := [.int r15]) rfl rfl ?_
        refine lm_pop C dX6_fill_117 rfl rfl ?_
        refine lm_aload_n C dX6_fill_118 rfl 0 rfl rfl ?_
        refine lm_getf C (T := TX6) (N := 9) (v := .ref (m 3)) in6_X6_fill 0 rfl rfl 3 (by decide) fl25_X6_fill rfl rfl dX6_fill_119 rfl ?_
        refine lm_aload_n C dX6_fill_122 rfl 0 rfl rfl ?_
        refine lm_getf C (T := TX6) (N := 9) (v := .ref (a 0 0)) in6_X6_fill 0 rfl rfl 0 (by decide) fl10_X6_fill rfl rfl dX6_fill_123 rfl ?_
        refine lm_iload_n C dX6_fill_126 rfl 1 rfl rfl ?_
        rcases Classical.em (x1 = 0) with c16 | c16
        · have hF := lm_brt hF c16
          refine lm_callVR C (n := 1) (ci := 4) (m_X4_table_1 D z zo l (a 0) (h14 0) x1 c16) gX6_fill_X4_table rfl (by decide +kernel) ⟨Nat.le_of_ble_eq_true rfl, Nat.le_of_ble_eq_true rfl⟩ ⟨Nat.le_of_ble_eq_true rfl, Nat.le_of_ble_eq_true rfl⟩ 5 rfl rfl (lm_s0 z zo m a h14) rfl rfl (Nat.le_of_ble_eq_true rfl) dX6_fill_127 (st' := [.ref (a 0 1), .ref (m 3)]) rfl rfl ?_
          obtain ⟨r17, qr17, hF⟩ := lm_bde hF
          refine lm_callVR C (n := 0) (ci := 5) (m_X5_size D z zo l (lm_sh 1 (a 0)) (lm_sh 1 (h14 0))  r17 qr17) gX6_fill_X5_size rfl (by decide +kernel) ⟨Nat.le_of_ble_eq_true rfl, Nat.le_of_ble_eq_true rfl⟩ ⟨Nat.le_of_ble_eq_true rfl, Nat.le_of_ble_eq_true rfl⟩ 6 rfl rfl (fun q hq => lm_s0 z zo m a h14 q (st_s1 z (a 0) (h14 0) q hq)) rfl rfl (Nat.le_of_ble_eq_true rfl) dX6_fill_130 (st' := [.int r17, .ref (m 3)]) rfl rfl ?_
          obtain ⟨r19, h18, qh18, hF⟩ := lm_b2e hF
          refine lm_callV C (n := 1) (ci := 1) (w' := (lmW z zo m a h18)) hA (m_X1_commit D z zo l m a h14 r17 r19 h18 qh18) gX6_fill_X1_commit rfl (by decide +kernel) ⟨Nat.le_of_ble_eq_true rfl, Nat.le_of_ble_eq_true rfl⟩ ⟨Nat.le_of_ble_eq_true rfl, Nat.le_of_ble_eq_true rfl⟩ 3 rfl rfl lm_pr lm_pr' rfl rfl (Nat.le_of_ble_eq_true rfl) dX6_fill_133 (st' := [.int r19]) rfl rfl ?_
          cases hF
          exact lm_iret C hr hk rfl rfl dX6_fill_136
        · have hF := lm_brf hF c16
          refine lm_callVR C (n := 1) (ci := 4) (m_X4_table_2 D z zo l (a 0) (h14 0) x1 c16) gX6_fill_X4_table rfl (by decide +kernel) ⟨Nat.le_of_ble_eq_true rfl, Nat.le_of_ble_eq_true rfl⟩ ⟨Nat.le_of_ble_eq_true rfl, Nat.le_of_ble_eq_true rfl⟩ 5 rfl rfl (lm_s0 z zo m a h14) rfl rfl (Nat.le_of_ble_eq_true rfl) dX6_fill_127 (st' := [.ref (a 0 4), .ref (m 3)]) rfl rfl ?_
          obtain ⟨r20, qr20, hF⟩ := lm_bde hF
          refine lm_callVR C (n := 0) (ci := 5) (m_X5_size D z zo l (lm_sh 4 (a 0)) (lm_sh 4 (h14 0))  r20 qr20) gX6_fill_X5_size rfl (by decide +kernel) ⟨Nat.le_of_ble_eq_true rfl, Nat.le_of_ble_eq_true rfl⟩ ⟨Nat.le_of_ble_eq_true rfl, Nat.le_of_ble_eq_true rfl⟩ 9 rfl rfl (fun q hq => lm_s0 z zo m a h14 q (st_s4 z (a 0) (h14 0) q hq)) rfl rfl (Nat.le_of_ble_eq_true rfl) dX6_fill_130 (st' := [.int r20, .ref (m 3)]) rfl rfl ?_
          obtain ⟨r22, h21, qh21, hF⟩ := lm_b2e hF
          refine lm_callV C (n := 1) (ci := 1) (w' := (lmW z zo m a h21)) hA (m_X1_commit D z zo l m a h14 r20 r22 h21 qh21) gX6_fill_X1_commit rfl (by decide +kernel) ⟨Nat.le_of_ble_eq_true rfl, Nat.le_of_ble_eq_true rfl⟩ ⟨Nat.le_of_ble_eq_true rfl, Nat.le_of_ble_eq_true rfl⟩ 3 rfl rfl lm_pr lm_pr' rfl rfl (Nat.le_of_ble_eq_true rfl) dX6_fill_133 (st' := [.int r22]) rfl rfl ?_
          cases hF
          exact lm_iret C hr hk rfl rfl dX6_fill_136
      · have hF := lm_brf hF c12
        refine lm_aload_n C dX6_fill_71 rfl 0 rfl rfl ?_
        refine lm_getf C (T := TX6) (N := 9) (v := .ref (m 1)) in6_X6_fill 0 rfl rfl 4 (by decide) fl32_X6_fill rfl rfl dX6_fill_72 rfl ?_
        obtain ⟨r25, τ23, qτ23, hF⟩ := lm_b2e hF
        obtain ⟨h24, eh24, hF⟩ := lm_lte hF
        refine lm_callV C (n := 0) (ci := 3) (w' := (lmW z zo m a h24)) hA (m_X3_next D z zo l (lm_sh 1 m) (lm_sh 1 (hx 8))  r25 τ23 qτ23) gX6_fill_X3_next rfl (by decide +kernel) ⟨Nat.le_of_ble_eq_true rfl, Nat.le_of_ble_eq_true rfl⟩ ⟨Nat.le_of_ble_eq_true rfl, Nat.le_of_ble_eq_true rfl⟩ 1 rfl rfl (lm_gP z zo m a hx) (by rw [← eh24]; exact lm_pP z zo m a hx τ23) rfl rfl (Nat.le_of_ble_eq_true rfl) dX6_fill_75 (st' := [.int r25]) rfl rfl ?_
        refine lm_if_eq C (tgt := 110) dX6_fill_78 (by decide) rfl (fun c26 => ?_) (fun c26 => ?_)
        · have hF := lm_brt hF c26
          refine lm_aload_n C dX6_fill_110 rfl 0 rfl rfl ?_
          refine lm_getf C (T := TX6) (N := 9) (v := .ref (m 1)) in6_X6_fill 0 rfl rfl 4 (by decide) fl32_X6_fill rfl rfl dX6_fill_111 rfl ?_
          obtain ⟨r29, τ27, qτ27, hF⟩ := lm_b2e hF
          obtain ⟨h28, eh28, hF⟩ := lm_lte hF
          refine lm_callV C (n := 0) (ci := 3) (w' := (lmW z zo m a h28)) hA (m_X3_empty D z zo l (lm_sh 1 m) (lm_sh 1 (h24 8))  r29 τ27 qτ27) gX6_fill_X3_empty rfl (by decide +kernel) ⟨Nat.le_of_ble_eq_true rfl, Nat.le_of_ble_eq_true rfl⟩ ⟨Nat.le_of_ble_eq_true rfl, Nat.le_of_ble_eq_true rfl⟩ 1 rfl rfl (lm_gP z zo m a h24) (by rw [← eh28]; exact lm_pP z zo m a h24 τ27) rfl rfl (Nat.le_of_ble_eq_true rfl) dX6_fill_114 (st' := [.int r29]) rfl rfl ?_
          refine lm_pop C dX6_fill_117 rfl rfl ?_
          refine lm_aload_n C dX6_fill_118 rfl 0 rfl rfl ?_
          refine lm_getf C (T := TX6) (N := 9) (v := .ref (m 3)) in6_X6_fill 0 rfl rfl 3 (by decide) fl25_X6_fill rfl rfl dX6_fill_119 rfl ?_
          refine lm_aload_n C dX6_fill_122 rfl 0 rfl rfl ?_
          refine lm_getf C (T := TX6) (N := 9) (v := .ref (a 0 0)) in6_X6_fill 0 rfl rfl 0 (by decide) fl10_X6_fill rfl rfl dX6_fill_123 rfl ?_
          refine lm_iload_n C dX6_fill_126 rfl 1 rfl rfl ?_
          rcases Classical.em (x1 = 0) with c30 | c30
          · have hF := lm_brt hF c30
            refine lm_callVR C (n := 1) (ci := 4) (m_X4_table_1 D z zo l (a 0) (h28 0) x1 c30) gX6_fill_X4_table rfl (by decide +kernel) ⟨Nat.le_of_ble_eq_true rfl, Nat.le_of_ble_eq_true rfl⟩ ⟨Nat.le_of_ble_eq_true rfl, Nat.le_of_ble_eq_true rfl⟩ 5 rfl rfl (lm_s0 z zo m a h28) rfl rfl (Nat.le_of_ble_eq_true rfl) dX6_fill_127 (st' := [.ref (a 0 1), .ref (m 3)]) rfl rfl ?_
            obtain ⟨r31, qr31, hF⟩ := lm_bde hF
            refine lm_callVR C (n := 0) (ci := 5) (m_X5_size D z zo l (lm_sh 1 (a 0)) (lm_sh 1 (h28 0))  r31 qr31) gX6_fill_X5_size rfl (by decide +kernel) ⟨Nat.le_of_ble_eq_true rfl, Nat.le_of_ble_eq_true rfl⟩ ⟨Nat.le_of_ble_eq_true rfl, Nat.le_of_ble_eq_true rfl⟩ 6 rfl rfl (fun q hq => lm_s0 z zo m a h28 q (st_s1 z (a 0) (h28 0) q hq)) rfl rfl (Nat.le_of_ble_eq_true rfl) dX6_fill_130 (st' := [.int r31, .ref (m 3)]) rfl rfl ?_
            obtain ⟨r33, h32, qh32, hF⟩ := lm_b2e hF
            refine lm_callV C (n := 1) (ci := 1) (w' := (lmW z zo m a h32)) hA (m_X1_commit D z zo l m a h28 r31 r33 h32 qh32) gX6_fill_X1_commit rfl (by decide +kernel) ⟨Nat.le_of_ble_eq_true rfl, Nat.le_of_ble_eq_true rfl⟩ ⟨Nat.le_of_ble_eq_true rfl, Nat.le_of_ble_eq_true rfl⟩ 3 rfl rfl lm_pr lm_pr' rfl rfl (Nat.le_of_ble_eq_true rfl) dX6_fill_133 (st' := [.int r33]) rfl rfl ?_
            cases hF
            exact lm_iret C hr hk rfl rfl dX6_fill_136
          · have hF := lm_brf hF c30
            refine lm_callVR C (n := 1) (ci := 4) (m_X4_table_2 D z zo l (a 0) (h28 0) x1 c30) gX6_fill_X4_table rfl (by decide +kernel) ⟨Nat.le_of_ble_eq_true rfl, Nat.le_of_ble_eq_true rfl⟩ ⟨Nat.le_of_ble_eq_true rfl, Nat.le_of_ble_eq_true rfl⟩ 5 rfl rfl (lm_s0 z zo m a h28) rfl rfl (Nat.le_of_ble_eq_true rfl) dX6_fill_127 (st' := [.ref (a 0 4), .ref (m 3)]) rfl rfl ?_
            obtain ⟨r34, qr34, hF⟩ := lm_bde hF
            refine lm_callVR C (n := 0) (ci := 5) (m_X5_size D z zo l (lm_sh 4 (a 0)) (lm_sh 4 (h28 0))  r34 qr34) gX6_fill_X5_size rfl (by decide +kernel) ⟨Nat.le_of_ble_eq_true rfl, Nat.le_of_ble_eq_true rfl⟩ ⟨Nat.le_of_ble_eq_true rfl, Nat.le_of_ble_eq_true rfl⟩ 9 rfl rfl (fun q hq => lm_s0 z zo m a h28 q (st_s4 z (a 0) (h28 0) q hq)) rfl rfl (Nat.le_of_ble_eq_true rfl) dX6_fill_130 (st' := [.int r34, .ref (m 3)]) rfl rfl ?_
            obtain ⟨r36, h35, qh35, hF⟩ := lm_b2e hF
            refine lm_callV C (n := 1) (ci := 1) (w' := (lmW z zo m a h35)) hA (m_X1_commit D z zo l m a h28 r34 r36 h35 qh35) gX6_fill_X1_commit rfl (by decide +kernel) ⟨Nat.le_of_ble_eq_true rfl, Nat.le_of_ble_eq_true rfl⟩ ⟨Nat.le_of_ble_eq_true rfl, Nat.le_of_ble_eq_true rfl⟩ 3 rfl rfl lm_pr lm_pr' rfl rfl (Nat.le_of_ble_eq_true rfl) dX6_fill_133 (st' := [.int r36]) rfl rfl ?_
            cases hF
            exact lm_iret C hr hk rfl rfl dX6_fill_136
        · have hF := lm_brf hF c26
          refine lm_aload_n C dX6_fill_81 rfl 0 rfl rfl ?_
          refine lm_getf C (T := TX6) (N := 9) (v := .ref (a 0 0)) in6_X6_fill 0 rfl rfl 0 (by decide) fl10_X6_fill rfl rfl dX6_fill_82 rfl ?_
          refine lm_iload_n C dX6_fill_85 rfl 1 rfl rfl ?_
          refine lm_aload_n C dX6_fill_86 rfl 0 rfl rfl ?_
          refine lm_getf C (T := TX6) (N := 9) (v := .ref (m 1)) in6_X6_fill 0 rfl rfl 4 (by decide) fl32_X6_fill rfl rfl dX6_fill_87 rfl ?_
          obtain ⟨r37, qr37, hF⟩ := lm_bde hF
          refine lm_callVR C (n := 0) (ci := 3) (m_X3_first D z zo l (lm_sh 1 m) (lm_sh 1 (h24 8))  r37 qr37) gX6_fill_X3_first rfl (by decide +kernel) ⟨Nat.le_of_ble_eq_true rfl, Nat.le_of_ble_eq_true rfl⟩ ⟨Nat.le_of_ble_eq_true rfl, Nat.le_of_ble_eq_true rfl⟩ 1 rfl rfl (lm_sP z zo m a h24) rfl rfl (Nat.le_of_ble_eq_true rfl) dX6_fill_90 (st' := [.int r37, .int x1, .ref (a 0 0)]) rfl rfl ?_
          refine lm_aload_n C dX6_fill_93 rfl 0 rfl rfl ?_
          refine lm_getf C (T := TX6) (N := 9) (v := .ref (m 1)) in6_X6_fill 0 rfl rfl 4 (by decide) fl32_X6_fill rfl rfl dX6_fill_94 rfl ?_
          obtain ⟨r38, qr38, hF⟩ := lm_bde hF
          refine lm_callVR C (n := 0) (ci := 3) (m_X3_second D z zo l (lm_sh 1 m) (lm_sh 1 (h24 8))  r38 qr38) gX6_fill_X3_second rfl (by decide +kernel) ⟨Nat.le_of_ble_eq_true rfl, Nat.le_of_ble_eq_true rfl⟩ ⟨Nat.le_of_ble_eq_true rfl, Nat.le_of_ble_eq_true rfl⟩ 1 rfl rfl (lm_sP z zo m a h24) rfl rfl (Nat.le_of_ble_eq_true rfl) dX6_fill_97 (st' := [.int r38, .int r37, .int x1, .ref (a 0 0)]) rfl rfl ?_
          obtain ⟨r41, τ39, qτ39, hF⟩ := lm_b2e hF
          obtain ⟨h40, eh40, hF⟩ := lm_lte hF
          refine lm_callV C (n := 3) (ci := 4) (w' := (lmW z zo m a h40)) hA (m_X4_insertRow D z zo l (a 0) (h24 0) x1 r37 r38 r41 τ39 qτ39) gX6_fill_X4_insertRow rfl (by decide +kernel) ⟨Nat.le_of_ble_eq_true rfl, Nat.le_of_ble_eq_true rfl⟩ ⟨Nat.le_of_ble_eq_true rfl, Nat.le_of_ble_eq_true rfl⟩ 5 rfl rfl (lm_g0 z zo m a h24) (by rw [← eh40]; exact lm_p0 z zo m a h24 τ39) rfl rfl (Nat.le_of_ble_eq_true rfl) dX6_fill_100 (st' := [.int r41]) rfl rfl ?_
          refine lm_pop C dX6_fill_103 rfl rfl ?_
          refine lm_iinc C (lv' := [(0, .ref (m 0)), (1, .int x1), (2, .int x2), (3, .int (x3 + (1 : Int32)))]) (x3 + (1 : Int32)) dX6_fill_104 3 rfl rfl (by decide) rfl [1, 2, 3, 0] rfl rfl ?_
          refine lm_goto C (tgt := 66) dX6_fill_107 (by decide) ?_
          exact ih h40 x1 x2 (x3 + (1 : Int32)) hF
  show lm_St p l e ({ frames := 6, cells := 0, slots := 0, locals := 126 }) s m_ args below meth c D (va_A (lmW z zo m a h) s.heap.size) 4 0 0 (lm_End below D (some (.int r)) (lmW z zo m a h) (lmW z zo m a h') args s) false (lmW z zo m a h) 0 [(0, .ref (m 0)), (1, .int x1)] []
  rw [F_X6_fill] at hF
  refine lm_aload_n C dX6_fill_0 rfl 0 rfl rfl ?_
  refine lm_getf C (T := TX6) (N := 9) (v := .ref (m 1)) in6_X6_fill 0 rfl rfl 4 (by decide) fl32_X6_fill rfl rfl dX6_fill_1 rfl ?_
  refine lm_iconst C (v := (0 : Int32)) dX6_fill_4 (by decide) rfl ?_
  obtain ⟨r3, τ1, qτ1, hF⟩ := lm_b2e hF
  obtain ⟨h2, eh2, hF⟩ := lm_lte hF
  refine lm_callV C (n := 1) (ci := 3) (w' := (lmW z zo m a h2)) hA (m_X3_findFault D z zo l (lm_sh 1 m) (lm_sh 1 (h 8)) (0 : Int32) r3 τ1 qτ1) gX6_fill_X3_findFault rfl (by decide +kernel) ⟨Nat.le_of_ble_eq_true rfl, Nat.le_of_ble_eq_true rfl⟩ ⟨Nat.le_of_ble_eq_true rfl, Nat.le_of_ble_eq_true rfl⟩ 1 rfl rfl (lm_gP z zo m a h) (by rw [← eh2]; exact lm_pP z zo m a h τ1) rfl rfl (Nat.le_of_ble_eq_true rfl) dX6_fill_5 (st' := [.int r3]) rfl rfl ?_
  refine lm_bipush C (v := (-4 : Int32)) dX6_fill_8 (by decide) rfl ?_
  refine lm_icmp_eq C (tgt := 16) dX6_fill_10 (by decide) rfl (fun c4 => ?_) (fun c4 => ?_)
  · have hF := lm_brt hF c4
    refine lm_aload_n C dX6_fill_16 rfl 0 rfl rfl ?_
    refine lm_getf C (T := TX6) (N := 9) (v := .ref (m 1)) in6_X6_fill 0 rfl rfl 4 (by decide) fl32_X6_fill rfl rfl dX6_fill_17 rfl ?_
    obtain ⟨r5, qr5, hF⟩ := lm_bde hF
    refine lm_callVR C (n := 0) (ci := 3) (m_X3_items D z zo l (lm_sh 1 m) (lm_sh 1 (h2 8))  r5 qr5) gX6_fill_X3_items rfl (by decide +kernel) ⟨Nat.le_of_ble_eq_true rfl, Nat.le_of_ble_eq_true rfl⟩ ⟨Nat.le_of_ble_eq_true rfl, Nat.le_of_ble_eq_true rfl⟩ 1 rfl rfl (lm_sP z zo m a h2) rfl rfl (Nat.le_of_ble_eq_true rfl) dX6_fill_20 (st' := [.int r5]) rfl rfl ?_
    refine lm_istore_n C (lv' := [(0, .ref (m 0)), (1, .int x1), (2, .int r5)]) dX6_fill_23 rfl (by decide) rfl [1, 2, 0] rfl rfl ?_
    refine lm_aload_n C dX6_fill_24 rfl 0 rfl rfl ?_
    refine lm_getf C (T := TX6) (N := 9) (v := .ref (a 0 0)) in6_X6_fill 0 rfl rfl 0 (by decide) fl10_X6_fill rfl rfl dX6_fill_25 rfl ?_
    refine lm_iload_n C dX6_fill_28 rfl 1 rfl rfl ?_
    rcases Classical.em (x1 = 0) with c6 | c6
    · have hF := lm_brt hF c6
      refine lm_callVR C (n := 1) (ci := 4) (m_X4_table_1 D z zo l (a 0) (h2 0) x1 c6) gX6_fill_X4_table rfl (by decide +kernel) ⟨Nat.le_of_ble_eq_true rfl, Nat.le_of_ble_eq_true rfl⟩ ⟨Nat.le_of_ble_eq_true rfl, Nat.le_of_ble_eq_true rfl⟩ 5 rfl rfl (lm_s0 z zo m a h2) rfl rfl (Nat.le_of_ble_eq_true rfl) dX6_fill_29 (st' := [.ref (a 0 1)]) rfl rfl ?_
      obtain ⟨r7, qr7, hF⟩ := lm_bde hF
      refine lm_callVR C (n := 0) (ci := 5) (m_X5_size D z zo l (lm_sh 1 (a 0)) (lm_sh 1 (h2 0))  r7 qr7) gX6_fill_X5_size rfl (by decide +kernel) ⟨Nat.le_of_ble_eq_true rfl, Nat.le_of_ble_eq_true rfl⟩ ⟨Nat.le_of_ble_eq_true rfl, Nat.le_of_ble_eq_true rfl⟩ 6 rfl rfl (fun q hq => lm_s0 z zo m a h2 q (st_s1 z (a 0) (h2 0) q hq)) rfl rfl (Nat.le_of_ble_eq_true rfl) dX6_fill_32 (st' := [.int r7]) rfl rfl ?_
      refine lm_iload_n C dX6_fill_35 rfl 2 rfl rfl ?_
      refine lm_iadd C dX6_fill_36 rfl rfl ?_
      refine lm_bipush C (v := (20 : Int32)) dX6_fill_37 (by decide) rfl ?_
      refine lm_icmp_le C (tgt := 45) dX6_fill_39 (by decide) rfl (fun c8 => ?_) (fun c8 => ?_)
      · have hF := lm_brt hF c8
        refine lm_aload_n C dX6_fill_45 rfl 0 rfl rfl ?_
        refine lm_getf C (T := TX6) (N := 9) (v := .ref (m 3)) in6_X6_fill 0 rfl rfl 3 (by decide) fl25_X6_fill rfl rfl dX6_fill_46 rfl ?_
        refine lm_aload_n C dX6_fill_49 rfl 0 rfl rfl ?_
        refine lm_getf C (T := TX6) (N := 9) (v := .ref (a 0 0)) in6_X6_fill 0 rfl rfl 0 (by decide) fl10_X6_fill rfl rfl dX6_fill_50 rfl ?_
        obtain ⟨h9, qh9, hF⟩ := lm_bde hF
        refine lm_callV C (n := 1) (ci := 1) (w' := (lmW z zo m a h9)) hA (m_X1_prepare D z zo l m a h2  h9 qh9) gX6_fill_X1_prepare rfl (by decide +kernel) ⟨Nat.le_of_ble_eq_true rfl, Nat.le_of_ble_eq_true rfl⟩ ⟨Nat.le_of_ble_eq_true rfl, Nat.le_of_ble_eq_true rfl⟩ 3 rfl rfl lm_pr lm_pr' rfl rfl (Nat.le_of_ble_eq_true rfl) dX6_fill_53 (st' := []) rfl rfl ?_
        refine lm_aload_n C dX6_fill_56 rfl 0 rfl rfl ?_
        refine lm_getf C (T := TX6) (N := 9) (v := .ref (m 1)) in6_X6_fill 0 rfl rfl 4 (by decide) fl32_X6_fill rfl rfl dX6_fill_57 rfl ?_
        refine lm_iconst C (v := (0 : Int32)) dX6_fill_60 (by decide) rfl ?_
        obtain ⟨τ10, qτ10, hF⟩ := lm_bde hF
        obtain ⟨h11, eh11, hF⟩ := lm_lte hF
        refine lm_callV C (n := 1) (ci := 3) (w' := (lmW z zo m a h11)) hA (m_X3_open D z zo l (lm_sh 1 m) (lm_sh 1 (h9 8)) (0 : Int32) τ10 qτ10) gX6_fill_X3_open rfl (by decide +kernel) ⟨Nat.le_of_ble_eq_true rfl, Nat.le_of_ble_eq_true rfl⟩ ⟨Nat.le_of_ble_eq_true rfl, Nat.le_of_ble_eq_true rfl⟩ 1 rfl rfl (lm_gP z zo m a h9) (by rw [← eh11]; exact lm_pP z zo m a h9 τ10) rfl rfl (Nat.le_of_ble_eq_true rfl) dX6_fill_61 (st' := []) rfl rfl ?_
        refine lm_iconst C (v := (0 : Int32)) dX6_fill_64 (by decide) rfl ?_
        refine lm_istore_n C (lv' := [(0, .ref (m 0)), (1, .int x1), (2, .int r5), (3, .int (0 : Int32))]) dX6_fill_65 rfl (by decide) rfl [1, 2, 3, 0] rfl rfl ?_
        exact loop_66 1000 h11 x1 r5 (0 : Int32) hF
      · have hF := lm_brf hF c8
        refine lm_bipush C (v := (-3 : Int32)) dX6_fill_42 (by decide) rfl ?_
        cases hF
        exact lm_iret C hr hk rfl rfl dX6_fill_44
    · have hF := lm_brf hF c6
      refine lm_callVR C (n := 1) (ci := 4) (m_X4_table_2 D z zo l (a 0) (h2 0) x1 c6) gX6_fill_X4_table rfl (by decide +kernel) ⟨Nat.le_of_ble_eq_true rfl, Nat.le_of_ble_eq_true rfl⟩ ⟨Nat.le_of_ble_eq_true rfl, Nat.le_of_ble_eq_true rfl⟩ 5 rfl rfl (lm_s0 z zo m a h2) rfl rfl (Nat.le_of_ble_eq_true rfl) dX6_fill_29 (st' := [.ref (a 0 4)]) rfl rfl ?_
      obtain ⟨r42, qr42, hF⟩ := lm_bde hF
      refine lm_callVR C (n := 0) (ci := 5) (m_X5_size D z zo l (lm_sh 4 (a 0)) (lm_sh 4 (h2 0))  r42 qr42) gX6_fill_X5_size rfl (by decide +kernel) ⟨Nat.le_of_ble_eq_true rfl, Nat.le_of_ble_eq_true rfl⟩ ⟨Nat.le_of_ble_eq_true rfl, Nat.le_of_ble_eq_true rfl⟩ 9 rfl rfl (fun q hq => lm_s0 z zo m a h2 q (st_s4 z (a 0) (h2 0) q hq)) rfl rfl (Nat.le_of_ble_eq_true rfl) dX6_fill_32 (st' := [.int r42]) rfl rfl ?_
      refine lm_iload_n C dX6_fill_35 rfl 2 rfl rfl ?_
      refine lm_iadd C dX6_fill_36 rfl rfl ?_
      refine lm_bipush C (v := (20 : Int32)) dX6_fill_37 (by decide) rfl ?_
      refine lm_icmp_le C (tgt := 45) dX6_fill_39 (by decide) rfl (fun c43 => ?_) (fun c43 => ?_)
      · have hF := lm_brt hF c43
        refine lm_aload_n C dX6_fill_45 rfl 0 rfl rfl ?_
        refine lm_getf C (T := TX6) (N := 9) (v := .ref (m 3)) in6_X6_fill 0 rfl rfl 3 (by decide) fl25_X6_fill rfl rfl dX6_fill_46 rfl ?_
        refine lm_aload_n C dX6_fill_49 rfl 0 rfl rfl ?_
        refine lm_getf C (T := TX6) (N := 9) (v := .ref (a 0 0)) in6_X6_fill 0 rfl rfl 0 (by decide) fl10_X6_fill rfl rfl dX6_fill_50 rfl ?_
        obtain ⟨h44, qh44, hF⟩ := lm_bde hF
        refine lm_callV C (n := 1) (ci := 1) (w' := (lmW z zo m a h44)) hA (m_X1_prepare D z zo l m a h2  h44 qh44) gX6_fill_X1_prepare rfl (by decide +kernel) ⟨Nat.le_of_ble_eq_true rfl, Nat.le_of_ble_eq_true rfl⟩ ⟨Nat.le_of_ble_eq_true rfl, Nat.le_of_ble_eq_true rfl⟩ 3 rfl rfl lm_pr lm_pr' rfl rfl (Nat.le_of_ble_eq_true rfl) dX6_fill_53 (st' := []) rfl rfl ?_
        refine lm_aload_n C dX6_fill_56 rfl 0 rfl rfl ?_
        refine lm_getf C (T := TX6) (N := 9) (v := .ref (m 1)) in6_X6_fill 0 rfl rfl 4 (by decide) fl32_X6_fill rfl rfl dX6_fill_57 rfl ?_
        refine lm_iconst C (v := (0 : Int32)) dX6_fill_60 (by decide) rfl ?_
        obtain ⟨τ45, qτ45, hF⟩ := lm_bde hF
        obtain ⟨h46, eh46, hF⟩ := lm_lte hF
        refine lm_callV C (n := 1) (ci := 3) (w' := (lmW z zo m a h46)) hA (m_X3_open D z zo l (lm_sh 1 m) (lm_sh 1 (h44 8)) (0 : Int32) τ45 qτ45) gX6_fill_X3_open rfl (by decide +kernel) ⟨Nat.le_of_ble_eq_true rfl, Nat.le_of_ble_eq_true rfl⟩ ⟨Nat.le_of_ble_eq_true rfl, Nat.le_of_ble_eq_true rfl⟩ 1 rfl rfl (lm_gP z zo m a h44) (by rw [← eh46]; exact lm_pP z zo m a h44 τ45) rfl rfl (Nat.le_of_ble_eq_true rfl) dX6_fill_61 (st' := []) rfl rfl ?_
        refine lm_iconst C (v := (0 : Int32)) dX6_fill_64 (by decide) rfl ?_
        refine lm_istore_n C (lv' := [(0, .ref (m 0)), (1, .int x1), (2, .int r5), (3, .int (0 : Int32))]) dX6_fill_65 rfl (by decide) rfl [1, 2, 3, 0] rfl rfl ?_
        exact loop_66 1000 h46 x1 r5 (0 : Int32) hF
      · have hF := lm_brf hF c43
        refine lm_bipush C (v := (-3 : Int32)) dX6_fill_42 (by decide) rfl ?_
        cases hF
        exact lm_iret C hr hk rfl rfl dX6_fill_44
  · have hF := lm_brf hF c4
    refine lm_bipush C (v := (-2 : Int32)) dX6_fill_13 (by decide) rfl ?_
    cases hF
    exact lm_iret C hr hk rfl rfl dX6_fill_15
def F_X6_obey (h : Nat → Hp)  : Option (Int32 × (Nat → Hp)) :=
  lm_bd (F_X3_sign (lm_sh 1 (h 8))) fun r1 =>
  lm_br (r1 = (43 : Int32))
   (lm_bd (F_X3_first (lm_sh 1 (h 8))) fun r3 =>
   lm_bd (F_X3_second (lm_sh 1 (h 8))) fun r4 =>
   lm_b2 (F_X4_insertRow (h 0) (1 : Int32) r3 r4) fun r7 τ5 =>
   lm_lt (lm_uB h 0 τ5) fun h6 =>
   some (r7, h6))
   (lm_br (r1 = (45 : Int32))
    (lm_bd (F_X3_first (lm_sh 1 (h 8))) fun r9 =>
    lm_b2 (F_X4_removeRow (h 0) (1 : Int32) r9) fun r12 τ10 =>
    lm_lt (lm_uB h 0 τ10) fun h11 =>
    some (r12, h11))
    (lm_br (r1 = (115 : Int32))
     (lm_bd (F_X3_first (lm_sh 1 (h 8))) fun r14 =>
     lm_b2 (F_X4_walk (h 0) r14) fun r17 τ15 =>
     lm_lt (lm_uB h 0 τ15) fun h16 =>
     some (r17, h16))
     (lm_b2 (F_X4_beginAgain (h 0)) fun r20 τ18 =>
     lm_lt (lm_uB h 0 τ18) fun h19 =>
     some (r20, h19))))
theorem in6_X6_obey : ∀ w ∈ u_ws RX6 TX6 9, w ∈ wsX6_obey := by decide +kernel
theorem fl32_X6_obey : Cond.fieldLink RX6 32 "LoopMemo" "pad" "LLoopMemo$Pad;" ∈ wsX6_obey := by decide +kernel
theorem fl10_X6_obey : Cond.fieldLink RX6 10 "LoopMemo" "now" "LLoopMemo$State;" ∈ wsX6_obey := by decide +kernel
set_option maxRecDepth 100000 in
set_option maxHeartbeats 4000000 in
theorem m_X6_obey (D : va_G) (z zo : ClassId) (l : Launch) (m : Nat → Nat) (a : Nat → Nat → Nat) (h : Nat → Hp)  (r : Int32) (h' : Nat → Hp) (hF : F_X6_obey h  = some (r, h')) : lm_C D z zo l yX6_obey wsX6_obey 5 115 [.ref (m 0)] (lmW z zo m a h) (some (.int r)) (lmW z zo m a h') := by
  refine lm_C.of (by decide) rfl (Nat.le_of_ble_eq_true rfl) (own := RX6) rfl ?_
  intro p e s m_ args below meth c C hr hk hA
  show lm_St p l e ({ frames := 5, cells := 0, slots := 0, locals := 115 }) s m_ args below meth c D (va_A (lmW z zo m a h) s.heap.size) 1 0 0 (lm_End below D (some (.int r)) (lmW z zo m a h) (lmW z zo m a h') args s) false (lmW z zo m a h) 0 [(0, .ref (m 0))] []
  rw [F_X6_obey] at hF
  refine lm_aload_n C dX6_obey_0 rfl 0 rfl rfl ?_
  refine lm_getf C (T := TX6) (N := 9) (v := .ref (m 1)) in6_X6_obey 0 rfl rfl 4 (by decide) fl32_X6_obey rfl rfl dX6_obey_1 rfl ?_
  obtain ⟨r1, qr1, hF⟩ := lm_bde hF
  refine lm_callVR C (n := 0) (ci := 3) (m_X3_sign D z zo l (lm_sh 1 m) (lm_sh 1 (h 8))  r1 qr1) gX6_obey_X3_sign rfl (by decide +kernel) ⟨Nat.le_of_ble_eq_true rfl, Nat.le_of_ble_eq_true rfl⟩ ⟨Nat.le_of_ble_eq_true rfl, Nat.le_of_ble_eq_true rfl⟩ 1 rfl rfl (lm_sP z zo m a h) rfl rfl (Nat.le_of_ble_eq_true rfl) dX6_obey_4 (st' := [.int r1]) rfl rfl ?_
  rcases Classical.em (r1 = (43 : Int32)) with c2 | c2
  · have hF := lm_brt hF c2
    refine lm_lookup C (off := 48) (tgt := 55) dX6_obey_7 (by decide) (by rw [c2]; decide) (by decide) ?_
    refine lm_aload_n C dX6_obey_55 rfl 0 rfl rfl ?_
    refine lm_getf C (T := TX6) (N := 9) (v := .ref (a 0 0)) in6_X6_obey 0 rfl rfl 0 (by decide) fl10_X6_obey rfl rfl dX6_obey_56 rfl ?_
    refine lm_iconst C (v := (1 : Int32)) dX6_obey_59 (by decide) rfl ?_
    refine lm_aload_n C dX6_obey_60 rfl 0 rfl rfl ?_
    refine lm_getf C (T := TX6) (N := 9) (v := .ref (m 1)) in6_X6_obey 0 rfl rfl 4 (by decide) fl32_X6_obey rfl rfl dX6_obey_61 rfl ?_
    obtain ⟨r3, qr3, hF⟩ := lm_bde hF
    refine lm_callVR C (n := 0) (ci := 3) (m_X3_first D z zo l (lm_sh 1 m) (lm_sh 1 (h 8))  r3 qr3) gX6_obey_X3_first rfl (by decide +kernel) ⟨Nat.le_of_ble_eq_true rfl, Nat.le_of_ble_eq_true rfl⟩ ⟨Nat.le_of_ble_eq_true rfl, Nat.le_of_ble_eq_true rfl⟩ 1 rfl rfl (lm_sP z zo m a h) rfl rfl (Nat.le_of_ble_eq_true rfl) dX6_obey_64 (st' := [.int r3, .int (1 : Int32), .ref (a 0 0)]) rfl rfl ?_
    refine lm_aload_n C dX6_obey_67 rfl 0 rfl rfl ?_
    refine lm_getf C (T := TX6) (N := 9) (v := .ref (m 1)) in6_X6_obey 0 rfl rfl 4 (by decide) fl32_X6_obey rfl rfl dX6_obey_68 rfl ?_
    obtain ⟨r4, qr4, hF⟩ := lm_bde hF
    refine lm_callVR C (n := 0) (ci := 3) (m_X3_second D z zo l (lm_sh 1 m) (lm_sh 1 (h 8))  r4 qr4) gX6_obey_X3_second rfl (by decide +kernel) ⟨Nat.le_of_ble_eq_true rfl, Nat.le_of_ble_eq_true rfl⟩ ⟨Nat.le_of_ble_eq_true rfl, Nat.le_of_ble_eq_true rfl⟩ 1 rfl rfl (lm_sP z zo m a h) rfl rfl (Nat.le_of_ble_eq_true rfl) dX6_obey_71 (st' := [.int r4, .int r3, .int (1 : Int32), .ref (a 0 0)]) rfl rfl ?_
    obtain ⟨r7, τ5, qτ5, hF⟩ := lm_b2e hF
    obtain ⟨h6, eh6, hF⟩ := lm_lte hF
    refine lm_callV C (n := 3) (ci := 4) (w' := (lmW z zo m a h6)) hA (m_X4_insertRow D z zo l (a 0) (h 0) (1 : Int32) r3 r4 r7 τ5 qτ5) gX6_obey_X4_insertRow rfl (by decide +kernel) ⟨Nat.le_of_ble_eq_true rfl, Nat.le_of_ble_eq_true rfl⟩ ⟨Nat.le_of_ble_eq_true rfl, Nat.le_of_ble_eq_true rfl⟩ 5 rfl rfl (lm_g0 z zo m a h) (by rw [← eh6]; exact lm_p0 z zo m a h τ5) rfl rfl (Nat.le_of_ble_eq_true rfl) dX6_obey_74 (st' := [.int r7]) rfl rfl ?_
    cases hF
    exact lm_iret C hr hk rfl rfl dX6_obey_77
  · have hF := lm_brf hF c2
    rcases Classical.em (r1 = (45 : Int32)) with c8 | c8
    · have hF := lm_brt hF c8
      refine lm_lookup C (off := 71) (tgt := 78) dX6_obey_7 (by decide) (by rw [c8]; decide) (by decide) ?_
      refine lm_aload_n C dX6_obey_78 rfl 0 rfl rfl ?_
      refine lm_getf C (T := TX6) (N := 9) (v := .ref (a 0 0)) in6_X6_obey 0 rfl rfl 0 (by decide) fl10_X6_obey rfl rfl dX6_obey_79 rfl ?_
      refine lm_iconst C (v := (1 : Int32)) dX6_obey_82 (by decide) rfl ?_
      refine lm_aload_n C dX6_obey_83 rfl 0 rfl rfl ?_
      refine lm_getf C (T := TX6) (N := 9) (v := .ref (m 1)) in6_X6_obey 0 rfl rfl 4 (by decide) fl32_X6_obey rfl rfl dX6_obey_84 rfl ?_
      obtain ⟨r9, qr9, hF⟩ := lm_bde hF
      refine lm_callVR C (n := 0) (ci := 3) (m_X3_first D z zo l (lm_sh 1 m) (lm_sh 1 (h 8))  r9 qr9) gX6_obey_X3_first rfl (by decide +kernel) ⟨Nat.le_of_ble_eq_true rfl, Nat.le_of_ble_eq_true rfl⟩ ⟨Nat.le_of_ble_eq_true rfl, Nat.le_of_ble_eq_true rfl⟩ 1 rfl rfl (lm_sP z zo m a h) rfl rfl (Nat.le_of_ble_eq_true rfl) dX6_obey_87 (st' := [.int r9, .int (1 : Int32), .ref (a 0 0)]) rfl rfl ?_
      obtain ⟨r12, τ10, qτ10, hF⟩ := lm_b2e hF
      obtain ⟨h11, eh11, hF⟩ := lm_lte hF
      refine lm_callV C (n := 2) (ci := 4) (w' := (lmW z zo m a h11)) hA (m_X4_removeRow D z zo l (a 0) (h 0) (1 : Int32) r9 r12 τ10 qτ10) gX6_obey_X4_removeRow rfl (by decide +kernel) ⟨Nat.le_of_ble_eq_true rfl, Nat.le_of_ble_eq_true rfl⟩ ⟨Nat.le_of_ble_eq_true rfl, Nat.le_of_ble_eq_true rfl⟩ 5 rfl rfl (lm_g0 z zo m a h) (by rw [← eh11]; exact lm_p0 z zo m a h τ10) rfl rfl (Nat.le_of_ble_eq_true rfl) dX6_obey_90 (st' := [.int r12]) rfl rfl ?_
      cases hF
      exact lm_iret C hr hk rfl rfl dX6_obey_93
    · have hF := lm_brf hF c8
      rcases Classical.em (r1 = (115 : Int32)) with c13 | c13
      · have hF := lm_brt hF c13
        refine lm_lookup C (off := 33) (tgt := 40) dX6_obey_7 (by decide) (by rw [c13]; decide) (by decide) ?_
        refine lm_aload_n C dX6_obey_40 rfl 0 rfl rfl ?_
        refine lm_getf C (T := TX6) (N := 9) (v := .ref (a 0 0)) in6_X6_obey 0 rfl rfl 0 (by decide) fl10_X6_obey rfl rfl dX6_obey_41 rfl ?_
        refine lm_aload_n C dX6_obey_44 rfl 0 rfl rfl ?_
        refine lm_getf C (T := TX6) (N := 9) (v := .ref (m 1)) in6_X6_obey 0 rfl rfl 4 (by decide) fl32_X6_obey rfl rfl dX6_obey_45 rfl ?_
        obtain ⟨r14, qr14, hF⟩ := lm_bde hF
        refine lm_callVR C (n := 0) (ci := 3) (m_X3_first D z zo l (lm_sh 1 m) (lm_sh 1 (h 8))  r14 qr14) gX6_obey_X3_first rfl (by decide +kernel) ⟨Nat.le_of_ble_eq_true rfl, Nat.le_of_ble_eq_true rfl⟩ ⟨Nat.le_of_ble_eq_true rfl, Nat.le_of_ble_eq_true rfl⟩ 1 rfl rfl (lm_sP z zo m a h) rfl rfl (Nat.le_of_ble_eq_true rfl) dX6_obey_48 (st' := [.int r14, .ref (a 0 0)]) rfl rfl ?_
        obtain ⟨r17, τ15, qτ15, hF⟩ := lm_b2e hF
        obtain ⟨h16, eh16, hF⟩ := lm_lte hF
        refine lm_callV C (n := 1) (ci := 4) (w' := (lmW z zo m a h16)) hA (m_X4_walk D z zo l (a 0) (h 0) r14 r17 τ15 qτ15) gX6_obey_X4_walk rfl (by decide +kernel) ⟨Nat.le_of_ble_eq_true rfl, Nat.le_of_ble_eq_true rfl⟩ ⟨Nat.le_of_ble_eq_true rfl, Nat.le_of_ble_eq_true rfl⟩ 5 rfl rfl (lm_g0 z zo m a h) (by rw [← eh16]; exact lm_p0 z zo m a h τ15) rfl rfl (Nat.le_of_ble_eq_true rfl) dX6_obey_51 (st' := [.int r17]) rfl rfl ?_
        cases hF
        exact lm_iret C hr hk rfl rfl dX6_obey_54
      · have hF := lm_brf hF c13
        refine lm_lookup C (off := 87) (tgt := 94) dX6_obey_7 (by decide) (by rw [lv_osw c2 (by decide)]; rw [lv_osw c8 (by decide)]; rw [lv_osw c13 (by decide)]; rfl) (by decide) ?_
        refine lm_aload_n C dX6_obey_94 rfl 0 rfl rfl ?_
        refine lm_getf C (T := TX6) (N := 9) (v := .ref (a 0 0)) in6_X6_obey 0 rfl rfl 0 (by decide) fl10_X6_obey rfl rfl dX6_obey_95 rfl ?_
        obtain ⟨r20, τ18, qτ18, hF⟩ := lm_b2e hF
        obtain ⟨h19, eh19, hF⟩ := lm_lte hF
        refine lm_callV C (n := 0) (ci := 4) (w' := (lmW z zo m a h19)) hA (m_X4_beginAgain D z zo l (a 0) (h 0)  r20 τ18 qτ18) gX6_obey_X4_beginAgain rfl (by decide +kernel) ⟨Nat.le_of_ble_eq_true rfl, Nat.le_of_ble_eq_true rfl⟩ ⟨Nat.le_of_ble_eq_true rfl, Nat.le_of_ble_eq_true rfl⟩ 5 rfl rfl (lm_g0 z zo m a h) (by rw [← eh19]; exact lm_p0 z zo m a h τ18) rfl rfl (Nat.le_of_ble_eq_true rfl) dX6_obey_98 (st' := [.int r20]) rfl rfl ?_
        cases hF
        exact lm_iret C hr hk rfl rfl dX6_obey_101
def F_X6_carryOut_L50 : Nat → (Nat → Hp) → Int32 → Int32 → Option (Int32 × (Nat → Hp))
  | 0, _, _, _ => none
  | n + 1, hx, x1, x2 =>
    lm_br (x1 ≤ x2)
     (lm_lt (lm_uB hx 8 (lm_u (hx 8) 0 7 x2)) fun h11 =>
     lm_bd (F_X3_start (lm_sh 1 (h11 8))) fun r12 =>
     lm_lt (lm_uB h11 8 (lm_u (h11 8) 0 8 r12)) fun h13 =>
     lm_b2 (F_X3_empty (lm_sh 1 (h13 8))) fun r16 τ14 =>
     lm_lt (lm_uB h13 8 (lm_sb (h13 8) 1 2 τ14)) fun h15 =>
     lm_b2 (F_X1_commit h15 x2) fun r18 h17 =>
     some (r18, h17))
     (lm_br (¬ (hx 8 0 6) = 0)
      (lm_lt (lm_uB hx 8 (lm_u (hx 8) 0 7 x2)) fun h20 =>
      lm_bd (F_X3_start (lm_sh 1 (h20 8))) fun r21 =>
      lm_lt (lm_uB h20 8 (lm_u (h20 8) 0 8 r21)) fun h22 =>
      lm_b2 (F_X3_empty (lm_sh 1 (h22 8))) fun r25 τ23 =>
      lm_lt (lm_uB h22 8 (lm_sb (h22 8) 1 2 τ23)) fun h24 =>
      lm_b2 (F_X1_commit h24 x2) fun r27 h26 =>
      some (r27, h26))
      (lm_b2 (F_X3_next (lm_sh 1 (hx 8))) fun r30 τ28 =>
      lm_lt (lm_uB hx 8 (lm_sb (hx 8) 1 2 τ28)) fun h29 =>
      lm_br (r30 = 0)
       (lm_lt (lm_uB h29 8 (lm_u (h29 8) 0 7 x2)) fun h32 =>
       lm_bd (F_X3_start (lm_sh 1 (h32 8))) fun r33 =>
       lm_lt (lm_uB h32 8 (lm_u (h32 8) 0 8 r33)) fun h34 =>
       lm_b2 (F_X3_empty (lm_sh 1 (h34 8))) fun r37 τ35 =>
       lm_lt (lm_uB h34 8 (lm_sb (h34 8) 1 2 τ35)) fun h36 =>
       lm_b2 (F_X1_commit h36 x2) fun r39 h38 =>
       some (r39, h38))
       (lm_b2 (F_X6_obey h29) fun r41 h40 =>
       lm_lt (lm_uB h40 8 (lm_u (h40 8) 0 6 (if r41 < (0 : Int32) then r41 else (0 : Int32)))) fun h42 =>
       lm_br (¬ (h42 8 0 6) = 0)
        (F_X6_carryOut_L50 n h42 x1 x2)
        (F_X6_carryOut_L50 n h42 x1 (x2 + (1 : Int32))))))
def F_X6_carryOut (h : Nat → Hp)  : Option (Int32 × (Nat → Hp)) :=
  lm_b2 (F_X3_findFault (lm_sh 1 (h 8)) (1 : Int32)) fun r3 τ1 =>
  lm_lt (lm_uB h 8 (lm_sb (h 8) 1 2 τ1)) fun h2 =>
  lm_br (r3 = (-4 : Int32))
   (lm_bd (F_X3_items (lm_sh 1 (h2 8))) fun r5 =>
   lm_bd (F_X1_prepare h2) fun h6 =>
   lm_bd (F_X3_open (lm_sh 1 (h6 8)) (1 : Int32)) fun τ7 =>
   lm_lt (lm_uB h6 8 (lm_sb (h6 8) 1 2 τ7)) fun h8 =>
   lm_lt (lm_uB h8 8 (lm_u (h8 8) 0 6 (0 : Int32))) fun h9 =>
   F_X6_carryOut_L50 1000 h9 r5 (0 : Int32))
   (some ((-2 : Int32), h2))
theorem in6_X6_carryOut : ∀ w ∈ u_ws RX6 TX6 9, w ∈ wsX6_carryOut := by decide +kernel
theorem fl32_X6_carryOut : Cond.fieldLink RX6 32 "LoopMemo" "pad" "LLoopMemo$Pad;" ∈ wsX6_carryOut := by decide +kernel
theorem fl25_X6_carryOut : Cond.fieldLink RX6 25 "LoopMemo" "history" "LLoopMemo$History;" ∈ wsX6_carryOut := by decide +kernel
theorem fl10_X6_carryOut : Cond.fieldLink RX6 10 "LoopMemo" "now" "LLoopMemo$State;" ∈ wsX6_carryOut := by decide +kernel
theorem fl128_X6_carryOut : Cond.fieldLink RX6 128 "LoopMemo" "stopPosition" "I" ∈ wsX6_carryOut := by decide +kernel
theorem fl122_X6_carryOut : Cond.fieldLink RX6 122 "LoopMemo" "stopNumber" "I" ∈ wsX6_carryOut := by decide +kernel
theorem fl110_X6_carryOut : Cond.fieldLink RX6 110 "LoopMemo" "stopError" "I" ∈ wsX6_carryOut := by decide +kernel
theorem min0_X6_carryOut : Cond.methodLink RX6 117 Lib.Math.min.name ∈ wsX6_carryOut := by decide +kernel
theorem min1_X6_carryOut : Cond.static Lib.Math.min.name ∈ wsX6_carryOut := by decide +kernel
theorem min2_X6_carryOut : Cond.initialized "java/lang/Math" ∈ wsX6_carryOut := by decide +kernel
theorem min3_X6_carryOut : Cond.code Lib.Math.min.name Lib.Math.min.code 2 (some .int) ∈ wsX6_carryOut := by decide +kernel
set_option maxRecDepth 100000 in
set_option maxHeartbeats 4000000 in
theorem m_X6_carryOut (D : va_G) (z zo : ClassId) (l : Launch) (m : Nat → Nat) (a : Nat → Nat → Nat) (h : Nat → Hp)  (r : Int32) (h' : Nat → Hp) (hF : F_X6_carryOut h  = some (r, h')) : lm_C D z zo l yX6_carryOut wsX6_carryOut 6 135 [.ref (m 0)] (lmW z zo m a h) (some (.int r)) (lmW z zo m a h') := by
  refine lm_C.of (by decide) rfl (Nat.le_of_ble_eq_true rfl) (own := RX6) rfl ?_
  intro p e s m_ args below meth c C hr hk hA
  have loop_50 : ∀ (n : Nat) (hx : Nat → Hp) (x1 : Int32) (x2 : Int32), F_X6_carryOut_L50 n hx x1 x2 = some (r, h') → lm_St p l e ({ frames := 6, cells := 0, slots := 0, locals := 135 }) s m_ args below meth c D (va_A (lmW z zo m a h) s.heap.size) 3 0 0 (lm_End below D (some (.int r)) (lmW z zo m a h) (lmW z zo m a h') args s) false (lmW z zo m a hx) 50 [(0, .ref (m 0)), (1, .int x1), (2, .int x2)] [] := by
    intro n
    induction n with
    | zero => intro hx x1 x2 hF; cases (show (none : Option _) = some _ from hF)
    | succ n ih =>
      intro hx x1 x2 hF
      rw [F_X6_carryOut_L50] at hF
      refine lm_iload_n C dX6_carryOut_50 rfl 2 rfl rfl ?_
      refine lm_iload_n C dX6_carryOut_51 rfl 1 rfl rfl ?_
      refine lm_icmp_ge C (tgt := 97) dX6_carryOut_52 (by decide) rfl (fun c10 => ?_) (fun c10 => ?_)
      · have hF := lm_brt hF c10
        refine lm_aload_n C dX6_carryOut_97 rfl 0 rfl rfl ?_
        refine lm_iload_n C dX6_carryOut_98 rfl 2 rfl rfl ?_
        obtain ⟨h11, eh11, hF⟩ := lm_lte hF
        refine lm_putf C (T := TX6) (N := 9) (ty := .int) (v := .int x2) (w' := (lmW z zo m a h11)) in6_X6_carryOut tyX6 tyX6_ok nmX6 0 rfl rfl 7 (by decide) fl122_X6_carryOut rfl rfl rfl rfl rfl (Nat.le_of_ble_eq_true rfl) dX6_carryOut_99 (by rw [← eh11]; rfl) rfl ?_
        refine lm_aload_n C dX6_carryOut_102 rfl 0 rfl rfl ?_
        refine lm_aload_n C dX6_carryOut_103 rfl 0 rfl rfl ?_
        refine lm_getf C (T := TX6) (N := 9) (v := .ref (m 1)) in6_X6_carryOut 0 rfl rfl 4 (by decide) fl32_X6_carryOut rfl rfl dX6_carryOut_104 rfl ?_
        obtain ⟨r12, qr12, hF⟩ := lm_bde hF
        refine lm_callVR C (n := 0) (ci := 3) (m_X3_start D z zo l (lm_sh 1 m) (lm_sh 1 (h11 8))  r12 qr12) gX6_carryOut_X3_start rfl (by decide +kernel) ⟨Nat.le_of_ble_eq_true rfl, Nat.le_of_ble_eq_true rfl⟩ ⟨Nat.le_of_ble_eq_true rfl, Nat.le_of_ble_eq_true rfl⟩ 1 rfl rfl (lm_sP z zo m a h11) rfl rfl (Nat.le_of_ble_eq_true rfl) dX6_carryOut_107 (st' := [.int r12, .ref (m 0)]) rfl rfl ?_
        obtain ⟨h13, eh13, hF⟩ := lm_lte hF
        refine lm_putf C (T := TX6) (N := 9) (ty := .int) (v := .int r12) (w' := (lmW z zo m a h13)) in6_X6_carryOut tyX6 tyX6_ok nmX6 0 rfl rfl 8 (by decide) fl128_X6_carryOut rfl rfl rfl rfl rfl (Nat.le_of_ble_eq_true rfl) dX6_carryOut_110 (by rw [← eh13]; rfl) rfl ?_
        refine lm_aload_n C dX6_carryOut_113 rfl 0 rfl rfl ?_
        refine lm_getf C (T := TX6) (N := 9) (v := .ref (m 1)) in6_X6_carryOut 0 rfl rfl 4 (by decide) fl32_X6_carryOut rfl rfl dX6_carryOut_114 rfl ?_
        obtain ⟨r16, τ14, qτ14, hF⟩ := lm_b2e hF
        obtain ⟨h15, eh15, hF⟩ := lm_lte hF
        refine lm_callV C (n := 0) (ci := 3) (w' := (lmW z zo m a h15)) hA (m_X3_empty D z zo l (lm_sh 1 m) (lm_sh 1 (h13 8))  r16 τ14 qτ14) gX6_carryOut_X3_empty rfl (by decide +kernel) ⟨Nat.le_of_ble_eq_true rfl, Nat.le_of_ble_eq_true rfl⟩ ⟨Nat.le_of_ble_eq_true rfl, Nat.le_of_ble_eq_true rfl⟩ 1 rfl rfl (lm_gP z zo m a h13) (by rw [← eh15]; exact lm_pP z zo m a h13 τ14) rfl rfl (Nat.le_of_ble_eq_true rfl) dX6_carryOut_117 (st' := [.int r16]) rfl rfl ?_
        refine lm_pop C dX6_carryOut_120 rfl rfl ?_
        refine lm_aload_n C dX6_carryOut_121 rfl 0 rfl rfl ?_
        refine lm_getf C (T := TX6) (N := 9) (v := .ref (m 3)) in6_X6_carryOut 0 rfl rfl 3 (by decide) fl25_X6_carryOut rfl rfl dX6_carryOut_122 rfl ?_
        refine lm_iload_n C dX6_carryOut_125 rfl 2 rfl rfl ?_
        obtain ⟨r18, h17, qh17, hF⟩ := lm_b2e hF
        refine lm_callV C (n := 1) (ci := 1) (w' := (lmW z zo m a h17)) hA (m_X1_commit D z zo l m a h15 x2 r18 h17 qh17) gX6_carryOut_X1_commit rfl (by decide +kernel) ⟨Nat.le_of_ble_eq_true rfl, Nat.le_of_ble_eq_true rfl⟩ ⟨Nat.le_of_ble_eq_true rfl, Nat.le_of_ble_eq_true rfl⟩ 3 rfl rfl lm_pr lm_pr' rfl rfl (Nat.le_of_ble_eq_true rfl) dX6_carryOut_126 (st' := [.int r18]) rfl rfl ?_
        cases hF
        exact lm_iret C hr hk rfl rfl dX6_carryOut_129
      · have hF := lm_brf hF c10
        refine lm_aload_n C dX6_carryOut_55 rfl 0 rfl rfl ?_
        refine lm_getf C (T := TX6) (N := 9) (v := .int (hx 8 0 6)) in6_X6_carryOut 0 rfl rfl 6 (by decide) fl110_X6_carryOut rfl rfl dX6_carryOut_56 rfl ?_
        refine lm_if_ne C (tgt := 97) dX6_carryOut_59 (by decide) rfl (fun c19 => ?_) (fun c19 => ?_)
        · have hF := lm_brt hF c19
          refine lm_aload_n C dX6_carryOut_97 rfl 0 rfl rfl ?_
          refine lm_iload_n C dX6_carryOut_98 rfl 2 rfl rfl ?_
          obtain ⟨h20, eh20, hF⟩ := lm_lte hF
          refine lm_putf C (T := TX6) (N := 9) (ty := .int) (v := .int x2) (w' := (lmW z zo m a h20)) in6_X6_carryOut tyX6 tyX6_ok nmX6 0 rfl rfl 7 (by decide) fl122_X6_carryOut rfl rfl rfl rfl rfl (Nat.le_of_ble_eq_true rfl) dX6_carryOut_99 (by rw [← eh20]; rfl) rfl ?_
          refine lm_aload_n C dX6_carryOut_102 rfl 0 rfl rfl ?_
          refine lm_aload_n C dX6_carryOut_103 rfl 0 rfl rfl ?_
          refine lm_getf C (T := TX6) (N := 9) (v := .ref (m 1)) in6_X6_carryOut 0 rfl rfl 4 (by decide) fl32_X6_carryOut rfl rfl dX6_carryOut_104 rfl ?_
          obtain ⟨r21, qr21, hF⟩ := lm_bde hF
          refine lm_callVR C (n := 0) (ci := 3) (m_X3_start D z zo l (lm_sh 1 m) (lm_sh 1 (h20 8))  r21 qr21) gX6_carryOut_X3_start rfl (by decide +kernel) ⟨Nat.le_of_ble_eq_true rfl, Nat.le_of_ble_eq_true rfl⟩ ⟨Nat.le_of_ble_eq_true rfl, Nat.le_of_ble_eq_true rfl⟩ 1 rfl rfl (lm_sP z zo m a h20) rfl rfl (Nat.le_of_ble_eq_true rfl) dX6_carryOut_107 (st' := [.int r21, .ref (m 0)]) rfl rfl ?_
          obtain ⟨h22, eh22, hF⟩ := lm_lte hF
          refine lm_putf C (T := TX6) (N := 9) (ty := .int) (v := .int r21) (w' := (lmW z zo m a h22)) in6_X6_carryOut tyX6 tyX6_ok nmX6 0 rfl rfl 8 (by decide) fl128_X6_carryOut rfl rfl rfl rfl rfl (Nat.le_of_ble_eq_true rfl) dX6_carryOut_110 (by rw [← eh22]; rfl) rfl ?_
          refine lm_aload_n C dX6_carryOut_113 rfl 0 rfl rfl ?_
          refine lm_getf C (T := TX6) (N := 9) (v := .ref (m 1)) in6_X6_carryOut 0 rfl rfl 4 (by decide) fl32_X6_carryOut rfl rfl dX6_carryOut_114 rfl ?_
          obtain ⟨r25, τ23, qτ23, hF⟩ := lm_b2e hF
          obtain ⟨h24, eh24, hF⟩ := lm_lte hF
          refine lm_callV C (n := 0) (ci := 3) (w' := (lmW z zo m a h24)) hA (m_X3_empty D z zo l (lm_sh 1 m) (lm_sh 1 (h22 8))  r25 τ23 qτ23) gX6_carryOut_X3_empty rfl (by decide +kernel) ⟨Nat.le_of_ble_eq_true rfl, Nat.le_of_ble_eq_true rfl⟩ ⟨Nat.le_of_ble_eq_true rfl, Nat.le_of_ble_eq_true rfl⟩ 1 rfl rfl (lm_gP z zo m a h22) (by rw [← eh24]; exact lm_pP z zo m a h22 τ23) rfl rfl (Nat.le_of_ble_eq_true rfl) dX6_carryOut_117 (st' := [.int r25]) rfl rfl ?_
          refine lm_pop C dX6_carryOut_120 rfl rfl ?_
          refine lm_aload_n C dX6_carryOut_121 rfl 0 rfl rfl ?_
          refine lm_getf C (T := TX6) (N := 9) (v := .ref (m 3)) in6_X6_carryOut 0 rfl rfl 3 (by decide) fl25_X6_carryOut rfl rfl dX6_carryOut_122 rfl ?_
          refine lm_iload_n C dX6_carryOut_125 rfl 2 rfl rfl ?_
          obtain ⟨r27, h26, qh26, hF⟩ := lm_b2e hF
          refine lm_callV C (n := 1) (ci := 1) (w' := (lmW z zo m a h26)) hA (m_X1_commit D z zo l m a h24 x2 r27 h26 qh26) gX6_carryOut_X1_commit rfl (by decide +kernel) ⟨Nat.le_of_ble_eq_true rfl, Nat.le_of_ble_eq_true rfl⟩ ⟨Nat.le_of_ble_eq_true rfl, Nat.le_of_ble_eq_true rfl⟩ 3 rfl rfl lm_pr lm_pr' rfl rfl (Nat.le_of_ble_eq_true rfl) dX6_carryOut_126 (st' := [.int r27]) rfl rfl ?_
          cases hF
          exact lm_iret C hr hk rfl rfl dX6_carryOut_129
        · have hF := lm_brf hF c19
          refine lm_aload_n C dX6_carryOut_62 rfl 0 rfl rfl ?_
          refine lm_getf C (T := TX6) (N := 9) (v := .ref (m 1)) in6_X6_carryOut 0 rfl rfl 4 (by decide) fl32_X6_carryOut rfl rfl dX6_carryOut_63 rfl ?_
          obtain ⟨r30, τ28, qτ28, hF⟩ := lm_b2e hF
          obtain ⟨h29, eh29, hF⟩ := lm_lte hF
          refine lm_callV C (n := 0) (ci := 3) (w' := (lmW z zo m a h29)) hA (m_X3_next D z zo l (lm_sh 1 m) (lm_sh 1 (hx 8))  r30 τ28 qτ28) gX6_carryOut_X3_next rfl (by decide +kernel) ⟨Nat.le_of_ble_eq_true rfl, Nat.le_of_ble_eq_true rfl⟩ ⟨Nat.le_of_ble_eq_true rfl, Nat.le_of_ble_eq_true rfl⟩ 1 rfl rfl (lm_gP z zo m a hx) (by rw [← eh29]; exact lm_pP z zo m a hx τ28) rfl rfl (Nat.le_of_ble_eq_true rfl) dX6_carryOut_66 (st' := [.int r30]) rfl rfl ?_
          refine lm_if_eq C (tgt := 97) dX6_carryOut_69 (by decide) rfl (fun c31 => ?_) (fun c31 => ?_)
          · have hF := lm_brt hF c31
            refine lm_aload_n C dX6_carryOut_97 rfl 0 rfl rfl ?_
            refine lm_iload_n C dX6_carryOut_98 rfl 2 rfl rfl ?_
            obtain ⟨h32, eh32, hF⟩ := lm_lte hF
            refine lm_putf C (T := TX6) (N := 9) (ty := .int) (v := .int x2) (w' := (lmW z zo m a h32)) in6_X6_carryOut tyX6 tyX6_ok nmX6 0 rfl rfl 7 (by decide) fl122_X6_carryOut rfl rfl rfl rfl rfl (Nat.le_of_ble_eq_true rfl) dX6_carryOut_99 (by rw [← eh32]; rfl) rfl ?_
            refine lm_aload_n C dX6_carryOut_102 rfl 0 rfl rfl ?_
            refine lm_aload_n C dX6_carryOut_103 rfl 0 rfl rfl ?_
            refine lm_getf C (T := TX6) (N := 9) (v := .ref (m 1)) in6_X6_carryOut 0 rfl rfl 4 (by decide) fl32_X6_carryOut rfl rfl dX6_carryOut_104 rfl ?_
            obtain ⟨r33, qr33, hF⟩ := lm_bde hF
            refine lm_callVR C (n := 0) (ci := 3) (m_X3_start D z zo l (lm_sh 1 m) (lm_sh 1 (h32 8))  r33 qr33) gX6_carryOut_X3_start rfl (by decide +kernel) ⟨Nat.le_of_ble_eq_true rfl, Nat.le_of_ble_eq_true rfl⟩ ⟨Nat.le_of_ble_eq_true rfl, Nat.le_of_ble_eq_true rfl⟩ 1 rfl rfl (lm_sP z zo m a h32) rfl rfl (Nat.le_of_ble_eq_true rfl) dX6_carryOut_107 (st' := [.int r33, .ref (m 0)]) rfl rfl ?_
            obtain ⟨h34, eh34, hF⟩ := lm_lte hF
            refine lm_putf C (T := TX6) (N := 9) (ty := .int) (v := .int r33) (w' := (lmW z zo m a h34)) in6_X6_carryOut tyX6 tyX6_ok nmX6 0 rfl rfl 8 (by decide) fl128_X6_carryOut rfl rfl rfl rfl rfl (Nat.le_of_ble_eq_true rfl) dX6_carryOut_110 (by rw [← eh34]; rfl) rfl ?_
            refine lm_aload_n C dX6_carryOut_113 rfl 0 rfl rfl ?_
            refine lm_getf C (T := TX6) (N := 9) (v := .ref (m 1)) in6_X6_carryOut 0 rfl rfl 4 (by decide) fl32_X6_carryOut rfl rfl dX6_carryOut_114 rfl ?_
            obtain ⟨r37, τ35, qτ35, hF⟩ := lm_b2e hF
            obtain ⟨h36, eh36, hF⟩ := lm_lte hF
            refine lm_callV C (n := 0) (ci := 3) (w' := (lmW z zo m a h36)) hA (m_X3_empty D z zo l (lm_sh 1 m) (lm_sh 1 (h34 8))  r37 τ35 qτ35) gX6_carryOut_X3_empty rfl (by decide +kernel) ⟨Nat.le_of_ble_eq_true rfl, Nat.le_of_ble_eq_true rfl⟩ ⟨Nat.le_of_ble_eq_true rfl, Nat.le_of_ble_eq_true rfl⟩ 1 rfl rfl (lm_gP z zo m a h34) (by rw [← eh36]; exact lm_pP z zo m a h34 τ35) rfl rfl (Nat.le_of_ble_eq_true rfl) dX6_carryOut_117 (st' := [.int r37]) rfl rfl ?_
            refine lm_pop C dX6_carryOut_120 rfl rfl ?_
            refine lm_aload_n C dX6_carryOut_121 rfl 0 rfl rfl ?_
            refine lm_getf C (T := TX6) (N := 9) (v := .ref (m 3)) in6_X6_carryOut 0 rfl rfl 3 (by decide) fl25_X6_carryOut rfl rfl dX6_carryOut_122 rfl ?_
            refine lm_iload_n C dX6_carryOut_125 rfl 2 rfl rfl ?_
            obtain ⟨r39, h38, qh38, hF⟩ := lm_b2e hF
            refine lm_callV C (n := 1) (ci := 1) (w' := (lmW z zo m a h38)) hA (m_X1_commit D z zo l m a h36 x2 r39 h38 qh38) gX6_carryOut_X1_commit rfl (by decide +kernel) ⟨Nat.le_of_ble_eq_true rfl, Nat.le_of_ble_eq_true rfl⟩ ⟨Nat.le_of_ble_eq_true rfl, Nat.le_of_ble_eq_true rfl⟩ 3 rfl rfl lm_pr lm_pr' rfl rfl (Nat.le_of_ble_eq_true rfl) dX6_carryOut_126 (st' := [.int r39]) rfl rfl ?_
            cases hF
            exact lm_iret C hr hk rfl rfl dX6_carryOut_129
          · have hF := lm_brf hF c31
            refine lm_aload_n C dX6_carryOut_72 rfl 0 rfl rfl ?_
            refine lm_iconst C (v := (0 : Int32)) dX6_carryOut_73 (by decide) rfl ?_
            refine lm_aload_n C dX6_carryOut_74 rfl 0 rfl rfl ?_
            obtain ⟨r41, h40, qh40, hF⟩ := lm_b2e hF
            refine lm_callV C (n := 0) (ci := 6) (w' := (lmW z zo m a h40)) hA (m_X6_obey D z zo l m a h29  r41 h40 qh40) gX6_carryOut_X6_obey rfl (by decide +kernel) ⟨Nat.le_of_ble_eq_true rfl, Nat.le_of_ble_eq_true rfl⟩ ⟨Nat.le_of_ble_eq_true rfl, Nat.le_of_ble_eq_true rfl⟩ 0 rfl rfl lm_pr lm_pr' rfl rfl (Nat.le_of_ble_eq_true rfl) dX6_carryOut_75 (st' := [.int r41, .int (0 : Int32), .ref (m 0)]) rfl rfl ?_
            refine lm_mmin C min0_X6_carryOut min1_X6_carryOut min2_X6_carryOut min3_X6_carryOut (Nat.le_of_ble_eq_true rfl) (Nat.le_of_ble_eq_true rfl) rfl (Nat.le_of_ble_eq_true rfl) dX6_carryOut_78 rfl ?_
            obtain ⟨h42, eh42, hF⟩ := lm_lte hF
            refine lm_putf C (T := TX6) (N := 9) (ty := .int) (v := .int (if r41 < (0 : Int32) then r41 else (0 : Int32))) (w' := (lmW z zo m a h42)) in6_X6_carryOut tyX6 tyX6_ok nmX6 0 rfl rfl 6 (by decide) fl110_X6_carryOut rfl rfl rfl rfl rfl (Nat.le_of_ble_eq_true rfl) dX6_carryOut_81 (by rw [← eh42]; rfl) rfl ?_
            refine lm_aload_n C dX6_carryOut_84 rfl 0 rfl rfl ?_
            refine lm_getf C (T := TX6) (N := 9) (v := .int (h42 8 0 6)) in6_X6_carryOut 0 rfl rfl 6 (by decide) fl110_X6_carryOut rfl rfl dX6_carryOut_85 rfl ?_
            refine lm_if_ne C (tgt := 50) dX6_carryOut_88 (by decide) rfl (fun c43 => ?_) (fun c43 => ?_)
            · have hF := lm_brt hF c43
              exact ih h42 x1 x2 hF
            · have hF := lm_brf hF c43
              refine lm_iinc C (lv' := [(0, .ref (m 0)), (1, .int x1), (2, .int (x2 + (1 : Int32)))]) (x2 + (1 : Int32)) dX6_carryOut_91 2 rfl rfl (by decide) rfl [1, 2, 0] rfl rfl ?_
              refine lm_goto C (tgt := 50) dX6_carryOut_94 (by decide) ?_
              exact ih h42 x1 (x2 + (1 : Int32)) hF
  show lm_St p l e ({ frames := 6, cells := 0, slots := 0, locals := 135 }) s m_ args below meth c D (va_A (lmW z zo m a h) s.heap.size) 3 0 0 (lm_End below D (some (.int r)) (lmW z zo m a h) (lmW z zo m a h') args s) false (lmW z zo m a h) 0 [(0, .ref (m 0))] []
  rw [F_X6_carryOut] at hF
  refine lm_aload_n C dX6_carryOut_0 rfl 0 rfl rfl ?_
  refine lm_getf C (T := TX6) (N := 9) (v := .ref (m 1)) in6_X6_carryOut 0 rfl rfl 4 (by decide) fl32_X6_carryOut rfl rfl dX6_carryOut_1 rfl ?_
  refine lm_iconst C (v := (1 : Int32)) dX6_carryOut_4 (by decide) rfl ?_
  obtain ⟨r3, τ1, qτ1, hF⟩ := lm_b2e hF
  obtain ⟨h2, eh2, hF⟩ := lm_lte hF
  refine lm_callV C (n := 1) (ci := 3) (w' := (lmW z zo m a h2)) hA (m_X3_findFault D z zo l (lm_sh 1 m) (lm_sh 1 (h 8)) (1 : Int32) r3 τ1 qτ1) gX6_carryOut_X3_findFault rfl (by decide +kernel) ⟨Nat.le_of_ble_eq_true rfl, Nat.le_of_ble_eq_true rfl⟩ ⟨Nat.le_of_ble_eq_true rfl, Nat.le_of_ble_eq_true rfl⟩ 1 rfl rfl (lm_gP z zo m a h) (by rw [← eh2]; exact lm_pP z zo m a h τ1) rfl rfl (Nat.le_of_ble_eq_true rfl) dX6_carryOut_5 (st' := [.int r3]) rfl rfl ?_
  refine lm_bipush C (v := (-4 : Int32)) dX6_carryOut_8 (by decide) rfl ?_
  refine lm_icmp_eq C (tgt := 16) dX6_carryOut_10 (by decide) rfl (fun c4 => ?_) (fun c4 => ?_)
  · have hF := lm_brt hF c4
    refine lm_aload_n C dX6_carryOut_16 rfl 0 rfl rfl ?_
    refine lm_getf C (T := TX6) (N := 9) (v := .ref (m 1)) in6_X6_carryOut 0 rfl rfl 4 (by decide) fl32_X6_carryOut rfl rfl dX6_carryOut_17 rfl ?_
    obtain ⟨r5, qr5, hF⟩ := lm_bde hF
    refine lm_callVR C (n := 0) (ci := 3) (m_X3_items D z zo l (lm_sh 1 m) (lm_sh 1 (h2 8))  r5 qr5) gX6_carryOut_X3_items rfl (by decide +kernel) ⟨Nat.le_of_ble_eq_true rfl, Nat.le_of_ble_eq_true rfl⟩ ⟨Nat.le_of_ble_eq_true rfl, Nat.le_of_ble_eq_true rfl⟩ 1 rfl rfl (lm_sP z zo m a h2) rfl rfl (Nat.le_of_ble_eq_true rfl) dX6_carryOut_20 (st' := [.int r5]) rfl rfl ?_
    refine lm_istore_n C (lv' := [(0, .ref (m 0)), (1, .int r5)]) dX6_carryOut_23 rfl (by decide) rfl [1, 0] rfl rfl ?_
    refine lm_aload_n C dX6_carryOut_24 rfl 0 rfl rfl ?_
    refine lm_getf C (T := TX6) (N := 9) (v := .ref (m 3)) in6_X6_carryOut 0 rfl rfl 3 (by decide) fl25_X6_carryOut rfl rfl dX6_carryOut_25 rfl ?_
    refine lm_aload_n C dX6_carryOut_28 rfl 0 rfl rfl ?_
    refine lm_getf C (T := TX6) (N := 9) (v := .ref (a 0 0)) in6_X6_carryOut 0 rfl rfl 0 (by decide) fl10_X6_carryOut rfl rfl dX6_carryOut_29 rfl ?_
    obtain ⟨h6, qh6, hF⟩ := lm_bde hF
    refine lm_callV C (n := 1) (ci := 1) (w' := (lmW z zo m a h6)) hA (m_X1_prepare D z zo l m a h2  h6 qh6) gX6_carryOut_X1_prepare rfl (by decide +kernel) ⟨Nat.le_of_ble_eq_true rfl, Nat.le_of_ble_eq_true rfl⟩ ⟨Nat.le_of_ble_eq_true rfl, Nat.le_of_ble_eq_true rfl⟩ 3 rfl rfl lm_pr lm_pr' rfl rfl (Nat.le_of_ble_eq_true rfl) dX6_carryOut_32 (st' := []) rfl rfl ?_
    refine lm_aload_n C dX6_carryOut_35 rfl 0 rfl rfl ?_
    refine lm_getf C (T := TX6) (N := 9) (v := .ref (m 1)) in6_X6_carryOut 0 rfl rfl 4 (by decide) fl32_X6_carryOut rfl rfl dX6_carryOut_36 rfl ?_
    refine lm_iconst C (v := (1 : Int32)) dX6_carryOut_39 (by decide) rfl ?_
    obtain ⟨τ7, qτ7, hF⟩ := lm_bde hF
    obtain ⟨h8, eh8, hF⟩ := lm_lte hF
    refine lm_callV C (n := 1) (ci := 3) (w' := (lmW z zo m a h8)) hA (m_X3_open D z zo l (lm_sh 1 m) (lm_sh 1 (h6 8)) (1 : Int32) τ7 qτ7) gX6_carryOut_X3_open rfl (by decide +kernel) ⟨Nat.le_of_ble_eq_true rfl, Nat.le_of_ble_eq_true rfl⟩ ⟨Nat.le_of_ble_eq_true rfl, Nat.le_of_ble_eq_true rfl⟩ 1 rfl rfl (lm_gP z zo m a h6) (by rw [← eh8]; exact lm_pP z zo m a h6 τ7) rfl rfl (Nat.le_of_ble_eq_true rfl) dX6_carryOut_40 (st' := []) rfl rfl ?_
    refine lm_aload_n C dX6_carryOut_43 rfl 0 rfl rfl ?_
    refine lm_iconst C (v := (0 : Int32)) dX6_carryOut_44 (by decide) rfl ?_
    obtain ⟨h9, eh9, hF⟩ := lm_lte hF
    refine lm_putf C (T := TX6) (N := 9) (ty := .int) (v := .int (0 : Int32)) (w' := (lmW z zo m a h9)) in6_X6_carryOut tyX6 tyX6_ok nmX6 0 rfl rfl 6 (by decide) fl110_X6_carryOut rfl rfl rfl rfl rfl (Nat.le_of_ble_eq_true rfl) dX6_carryOut_45 (by rw [← eh9]; rfl) rfl ?_
    refine lm_iconst C (v := (0 : Int32)) dX6_carryOut_48 (by decide) rfl ?_
    refine lm_istore_n C (lv' := [(0, .ref (m 0)), (1, .int r5), (2, .int (0 : Int32))]) dX6_carryOut_49 rfl (by decide) rfl [1, 2, 0] rfl rfl ?_
    exact loop_50 1000 h9 r5 (0 : Int32) hF
  · have hF := lm_brf hF c4
    refine lm_bipush C (v := (-2 : Int32)) dX6_carryOut_13 (by decide) rfl ?_
    cases hF
    exact lm_iret C hr hk rfl rfl dX6_carryOut_15
def F_X6_why (h : Nat → Hp) (x1 : Int32) : Option Int32 :=
  lm_bd (F_X6_isWithin x1 (2 : Int32)) fun r1 =>
  lm_br (¬ r1 = 0)
   (lm_br (¬ (h 8 0 6) = 0)
    (lm_br (x1 = (0 : Int32))
     (some (h 8 0 6))
     (lm_br (x1 = (1 : Int32))
      (some (h 8 0 7))
      (some (h 8 0 8))))
    (some (-4 : Int32)))
   (some (-1 : Int32))
theorem in6_X6_why : ∀ w ∈ u_ws RX6 TX6 9, w ∈ wsX6_why := by decide +kernel
theorem fl110_X6_why : Cond.fieldLink RX6 110 "LoopMemo" "stopError" "I" ∈ wsX6_why := by decide +kernel
theorem fl122_X6_why : Cond.fieldLink RX6 122 "LoopMemo" "stopNumber" "I" ∈ wsX6_why := by decide +kernel
theorem fl128_X6_why : Cond.fieldLink RX6 128 "LoopMemo" "stopPosition" "I" ∈ wsX6_why := by decide +kernel
set_option maxRecDepth 100000 in
set_option maxHeartbeats 4000000 in
theorem m_X6_why (D : va_G) (z zo : ClassId) (l : Launch) (m : Nat → Nat) (a : Nat → Nat → Nat) (h : Nat → Hp) (x1 : Int32) (r : Int32)  (hF : F_X6_why h x1 = some r) : lm_CR D z zo l yX6_why wsX6_why 1 21 [.ref (m 0), .int x1] (lmW z zo m a h) (some (.int r)) := by
  refine lm_CR.of (by decide) rfl (Nat.le_of_ble_eq_true rfl) (own := RX6) rfl ?_
  intro p e s m_ args below meth c C hr hk
  show lm_St p l e ({ frames := 1, cells := 0, slots := 0, locals := 21 }) s m_ args below meth c D (fun _ => False) 2 0 0 (lm_EndR below (some (.int r)) args s) true (lmW z zo m a h) 0 [(0, .ref (m 0)), (1, .int x1)] []
  rw [F_X6_why] at hF
  refine lm_iload_n C dX6_why_0 rfl 1 rfl rfl ?_
  refine lm_iconst C (v := (2 : Int32)) dX6_why_1 (by decide) rfl ?_
  obtain ⟨r1, qr1, hF⟩ := lm_bde hF
  refine lm_callSR C (n := 2) (m_X6_isWithin D z zo l   x1 (2 : Int32) r1 qr1) gX6_why_X6_isWithin rfl (by decide +kernel) ⟨Nat.le_of_ble_eq_true rfl, Nat.le_of_ble_eq_true rfl⟩ ⟨Nat.le_of_ble_eq_true rfl, Nat.le_of_ble_eq_true rfl⟩ (fun _ h => absurd h List.not_mem_nil) rfl rfl (Nat.le_of_ble_eq_true rfl) dX6_why_2 (st' := [.int r1]) rfl rfl ?_
  refine lm_if_ne C (tgt := 10) dX6_why_5 (by decide) rfl (fun c2 => ?_) (fun c2 => ?_)
  · have hF := lm_brt hF c2
    refine lm_aload_n C dX6_why_10 rfl 0 rfl rfl ?_
    refine lm_getf C (T := TX6) (N := 9) (v := .int (h 8 0 6)) in6_X6_why 0 rfl rfl 6 (by decide) fl110_X6_why rfl rfl dX6_why_11 rfl ?_
    refine lm_if_ne C (tgt := 20) dX6_why_14 (by decide) rfl (fun c3 => ?_) (fun c3 => ?_)
    · have hF := lm_brt hF c3
      refine lm_iload_n C dX6_why_20 rfl 1 rfl rfl ?_
      rcases Classical.em (x1 = (0 : Int32)) with c4 | c4
      · have hF := lm_brt hF c4
        refine lm_lookup C (off := 27) (tgt := 48) dX6_why_21 (by decide) (by rw [c4]; decide) (by decide) ?_
        refine lm_aload_n C dX6_why_48 rfl 0 rfl rfl ?_
        refine lm_getf C (T := TX6) (N := 9) (v := .int (h 8 0 6)) in6_X6_why 0 rfl rfl 6 (by decide) fl110_X6_why rfl rfl dX6_why_49 rfl ?_
        cases hF
        exact lm_iretR C hr hk rfl dX6_why_52
      · have hF := lm_brf hF c4
        rcases Classical.em (x1 = (1 : Int32)) with c5 | c5
        · have hF := lm_brt hF c5
          refine lm_lookup C (off := 32) (tgt := 53) dX6_why_21 (by decide) (by rw [c5]; decide) (by decide) ?_
          refine lm_aload_n C dX6_why_53 rfl 0 rfl rfl ?_
          refine lm_getf C (T := TX6) (N := 9) (v := .int (h 8 0 7)) in6_X6_why 0 rfl rfl 7 (by decide) fl122_X6_why rfl rfl dX6_why_54 rfl ?_
          cases hF
          exact lm_iretR C hr hk rfl dX6_why_57
        · have hF := lm_brf hF c5
          refine lm_lookup C (off := 37) (tgt := 58) dX6_why_21 (by decide) (by rw [lv_osw c4 (by decide)]; rw [lv_osw c5 (by decide)]; rfl) (by decide) ?_
          refine lm_aload_n C dX6_why_58 rfl 0 rfl rfl ?_
          refine lm_getf C (T := TX6) (N := 9) (v := .int (h 8 0 8)) in6_X6_why 0 rfl rfl 8 (by decide) fl128_X6_why rfl rfl dX6_why_59 rfl ?_
          cases hF
          exact lm_iretR C hr hk rfl dX6_why_62
    · have hF := lm_brf hF c3
      refine lm_bipush C (v := (-4 : Int32)) dX6_why_17 (by decide) rfl ?_
      cases hF
      exact lm_iretR C hr hk rfl dX6_why_19
  · have hF := lm_brf hF c2
    refine lm_iconst C (v := (-1 : Int32)) dX6_why_8 (by decide) rfl ?_
    cases hF
    exact lm_iretR C hr hk rfl dX6_why_9
def F_X6_row (h : Nat → Hp) (x1 x2 x3 : Int32) : Option Int32 :=
  lm_br (x1 = 0)
   (lm_bd (F_X5_has (lm_sh 1 (h 0)) x2) fun r2 =>
   lm_br (r2 = 0)
    (some (-1 : Int32))
    (lm_bd (F_X6_isWithin x3 (2 : Int32)) fun r4 =>
    lm_br (¬ r4 = 0)
     (lm_br (x3 = (0 : Int32))
      (lm_bd (F_X5_key (lm_sh 1 (h 0)) x2) fun r7 =>
      some r7)
      (lm_br (x3 = (1 : Int32))
       (lm_bd (F_X5_value (lm_sh 1 (h 0)) x2) fun r9 =>
       some r9)
       (lm_bd (F_X4_isDone (h 0) x2) fun r11 =>
       lm_br (r11 = 0)
        (some (0 : Int32))
        (some (1 : Int32)))))
     (some (-1 : Int32))))
   (lm_bd (F_X5_has (lm_sh 4 (h 0)) x2) fun r13 =>
   lm_br (r13 = 0)
    (some (-1 : Int32))
    (lm_bd (F_X6_isWithin x3 (2 : Int32)) fun r15 =>
    lm_br (¬ r15 = 0)
     (lm_br (x3 = (0 : Int32))
      (lm_bd (F_X5_key (lm_sh 4 (h 0)) x2) fun r18 =>
      some r18)
      (lm_br (x3 = (1 : Int32))
       (lm_bd (F_X5_value (lm_sh 4 (h 0)) x2) fun r20 =>
       some r20)
       (lm_bd (F_X4_isInRememberedAnswer (h 0) x2) fun r22 =>
       lm_br (r22 = 0)
        (some (0 : Int32))
        (some (1 : Int32)))))
     (some (-1 : Int32))))
theorem in6_X6_row : ∀ w ∈ u_ws RX6 TX6 9, w ∈ wsX6_row := by decide +kernel
theorem fl10_X6_row : Cond.fieldLink RX6 10 "LoopMemo" "now" "LLoopMemo$State;" ∈ wsX6_row := by decide +kernel
set_option maxRecDepth 100000 in
set_option maxHeartbeats 4000000 in
theorem m_X6_row (D : va_G) (z zo : ClassId) (l : Launch) (m : Nat → Nat) (a : Nat → Nat → Nat) (h : Nat → Hp) (x1 x2 x3 : Int32) (r : Int32)  (hF : F_X6_row h x1 x2 x3 = some r) : lm_CR D z zo l yX6_row wsX6_row 2 42 [.ref (m 0), .int x1, .int x2, .int x3] (lmW z zo m a h) (some (.int r)) := by
  refine lm_CR.of (by decide) rfl (Nat.le_of_ble_eq_true rfl) (own := RX6) rfl ?_
  intro p e s m_ args below meth c C hr hk
  show lm_St p l e ({ frames := 2, cells := 0, slots := 0, locals := 42 }) s m_ args below meth c D (fun _ => False) 5 0 0 (lm_EndR below (some (.int r)) args s) true (lmW z zo m a h) 0 [(0, .ref (m 0)), (1, .int x1), (2, .int x2), (3, .int x3)] []
  rw [F_X6_row] at hF
  refine lm_aload_n C dX6_row_0 rfl 0 rfl rfl ?_
  refine lm_getf C (T := TX6) (N := 9) (v := .ref (a 0 0)) in6_X6_row 0 rfl rfl 0 (by decide) fl10_X6_row rfl rfl dX6_row_1 rfl ?_
  refine lm_iload_n C dX6_row_4 rfl 1 rfl rfl ?_
  rcases Classical.em (x1 = 0) with c1 | c1
  · have hF := lm_brt hF c1
    refine lm_callVR C (n := 1) (ci := 4) (m_X4_table_1 D z zo l (a 0) (h 0) x1 c1) gX6_row_X4_table rfl (by decide +kernel) ⟨Nat.le_of_ble_eq_true rfl, Nat.le_of_ble_eq_true rfl⟩ ⟨Nat.le_of_ble_eq_true rfl, Nat.le_of_ble_eq_true rfl⟩ 5 rfl rfl (lm_s0 z zo m a h) rfl rfl (Nat.le_of_ble_eq_true rfl) dX6_row_5 (st' := [.ref (a 0 1)]) rfl rfl ?_
    refine lm_astore C (lv' := [(0, .ref (m 0)), (1, .int x1), (2, .int x2), (3, .int x3), (4, .ref (a 0 1))]) dX6_row_8 (by decide) rfl [1, 2, 3, 4, 0] rfl rfl ?_
    refine lm_aload C dX6_row_10 4 rfl rfl ?_
    refine lm_iload_n C dX6_row_12 rfl 2 rfl rfl ?_
    obtain ⟨r2, qr2, hF⟩ := lm_bde hF
    refine lm_callVR C (n := 1) (ci := 5) (m_X5_has D z zo l (lm_sh 1 (a 0)) (lm_sh 1 (h 0)) x2 r2 qr2) gX6_row_X5_has rfl (by decide +kernel) ⟨Nat.le_of_ble_eq_true rfl, Nat.le_of_ble_eq_true rfl⟩ ⟨Nat.le_of_ble_eq_true rfl, Nat.le_of_ble_eq_true rfl⟩ 6 rfl rfl (fun q hq => lm_s0 z zo m a h q (st_s1 z (a 0) (h 0) q hq)) rfl rfl (Nat.le_of_ble_eq_true rfl) dX6_row_13 (st' := [.int r2]) rfl rfl ?_
    refine lm_if_eq C (tgt := 27) dX6_row_16 (by decide) rfl (fun c3 => ?_) (fun c3 => ?_)
    · have hF := lm_brt hF c3
      refine lm_iconst C (v := (-1 : Int32)) dX6_row_27 (by decide) rfl ?_
      cases hF
      exact lm_iretR C hr hk rfl dX6_row_28
    · have hF := lm_brf hF c3
      refine lm_iload_n C dX6_row_19 rfl 3 rfl rfl ?_
      refine lm_iconst C (v := (2 : Int32)) dX6_row_20 (by decide) rfl ?_
      obtain ⟨r4, qr4, hF⟩ := lm_bde hF
      refine lm_callSR C (n := 2) (m_X6_isWithin D z zo l   x3 (2 : Int32) r4 qr4) gX6_row_X6_isWithin rfl (by decide +kernel) ⟨Nat.le_of_ble_eq_true rfl, Nat.le_of_ble_eq_true rfl⟩ ⟨Nat.le_of_ble_eq_true rfl, Nat.le_of_ble_eq_true rfl⟩ (fun _ h => absurd h List.not_mem_nil) rfl rfl (Nat.le_of_ble_eq_true rfl) dX6_row_21 (st' := [.int r4]) rfl rfl ?_
      refine lm_if_ne C (tgt := 29) dX6_row_24 (by decide) rfl (fun c5 => ?_) (fun c5 => ?_)
      · have hF := lm_brt hF c5
        refine lm_iload_n C dX6_row_29 rfl 3 rfl rfl ?_
        rcases Classical.em (x3 = (0 : Int32)) with c6 | c6
        · have hF := lm_brt hF c6
          refine lm_lookup C (off := 26) (tgt := 56) dX6_row_30 (by decide) (by rw [c6]; decide) (by decide) ?_
          refine lm_aload C dX6_row_56 4 rfl rfl ?_
          refine lm_iload_n C dX6_row_58 rfl 2 rfl rfl ?_
          obtain ⟨r7, qr7, hF⟩ := lm_bde hF
          refine lm_callVR C (n := 1) (ci := 5) (m_X5_key D z zo l (lm_sh 1 (a 0)) (lm_sh 1 (h 0)) x2 r7 qr7) gX6_row_X5_key rfl (by decide +kernel) ⟨Nat.le_of_ble_eq_true rfl, Nat.le_of_ble_eq_true rfl⟩ ⟨Nat.le_of_ble_eq_true rfl, Nat.le_of_ble_eq_true rfl⟩ 6 rfl rfl (fun q hq => lm_s0 z zo m a h q (st_s1 z (a 0) (h 0) q hq)) rfl rfl (Nat.le_of_ble_eq_true rfl) dX6_row_59 (st' := [.int r7]) rfl rfl ?_
          cases hF
          exact lm_iretR C hr hk rfl dX6_row_62
        · have hF := lm_brf hF c6
          rcases Classical.em (x3 = (1 : Int32)) with c8 | c8
          · have hF := lm_brt hF c8
            refine lm_lookup C (off := 33) (tgt := 63) dX6_row_30 (by decide) (by rw [c8]; decide) (by decide) ?_
            refine lm_aload C dX6_row_63 4 rfl rfl ?_
            refine lm_iload_n C dX6_row_65 rfl 2 rfl rfl ?_
            obtain ⟨r9, qr9, hF⟩ := lm_bde hF
            refine lm_callVR C (n := 1) (ci := 5) (m_X5_value D z zo l (lm_sh 1 (a 0)) (lm_sh 1 (h 0)) x2 r9 qr9) gX6_row_X5_value rfl (by decide +kernel) ⟨Nat.le_of_ble_eq_true rfl, Nat.le_of_ble_eq_true rfl⟩ ⟨Nat.le_of_ble_eq_true rfl, Nat.le_of_ble_eq_true rfl⟩ 6 rfl rfl (fun q hq => lm_s0 z zo m a h q (st_s1 z (a 0) (h 0) q hq)) rfl rfl (Nat.le_of_ble_eq_true rfl) dX6_row_66 (st' := [.int r9]) rfl rfl ?_
            cases hF
            exact lm_iretR C hr hk rfl dX6_row_69
          · have hF := lm_brf hF c8
            refine lm_lookup C (off := 40) (tgt := 70) dX6_row_30 (by decide) (by rw [lv_osw c6 (by decide)]; rw [lv_osw c8 (by decide)]; rfl) (by decide) ?_
            refine lm_iload_n C dX6_row_70 rfl 1 rfl rfl ?_
            refine lm_if_eq C (tgt := 88) dX6_row_71 (by decide) rfl (fun c10 => ?_) (fun c10 => ?_)
            · refine lm_aload_n C dX6_row_88 rfl 0 rfl rfl ?_
              refine lm_getf C (T := TX6) (N := 9) (v := .ref (a 0 0)) in6_X6_row 0 rfl rfl 0 (by decide) fl10_X6_row rfl rfl dX6_row_89 rfl ?_
              refine lm_iload_n C dX6_row_92 rfl 2 rfl rfl ?_
              obtain ⟨r11, qr11, hF⟩ := lm_bde hF
              refine lm_callVR C (n := 1) (ci := 4) (m_X4_isDone D z zo l (a 0) (h 0) x2 r11 qr11) gX6_row_X4_isDone rfl (by decide +kernel) ⟨Nat.le_of_ble_eq_true rfl, Nat.le_of_ble_eq_true rfl⟩ ⟨Nat.le_of_ble_eq_true rfl, Nat.le_of_ble_eq_true rfl⟩ 5 rfl rfl (lm_s0 z zo m a h) rfl rfl (Nat.le_of_ble_eq_true rfl) dX6_row_93 (st' := [.int r11]) rfl rfl ?_
              refine lm_if_eq C (tgt := 103) dX6_row_96 (by decide) rfl (fun c12 => ?_) (fun c12 => ?_)
              · have hF := lm_brt hF c12
                refine lm_iconst C (v := (0 : Int32)) dX6_row_103 (by decide) rfl ?_
                cases hF
                exact lm_iretR C hr hk rfl dX6_row_104
              · have hF := lm_brf hF c12
                refine lm_iconst C (v := (1 : Int32)) dX6_row_99 (by decide) rfl ?_
                refine lm_goto C (tgt := 104) dX6_row_100 (by decide) ?_
                cases hF
                exact lm_iretR C hr hk rfl dX6_row_104
            · exact (by simp_all : False).elim
      · have hF := lm_brf hF c5
        refine lm_iconst C (v := (-1 : Int32)) dX6_row_27 (by decide) rfl ?_
        cases hF
        exact lm_iretR C hr hk rfl dX6_row_28
  · have hF := lm_brf hF c1
    refine lm_callVR C (n := 1) (ci := 4) (m_X4_table_2 D z zo l (a 0) (h 0) x1 c1) gX6_row_X4_table rfl (by decide +kernel) ⟨Nat.le_of_ble_eq_true rfl, Nat.le_of_ble_eq_true rfl⟩ ⟨Nat.le_of_ble_eq_true rfl, Nat.le_of_ble_eq_true rfl⟩ 5 rfl rfl (lm_s0 z zo m a h) rfl rfl (Nat.le_of_ble_eq_true rfl) dX6_row_5 (st' := [.ref (a 0 4)]) rfl rfl ?_
    refine lm_astore C (lv' := [(0, .ref (m 0)), (1, .int x1), (2, .int x2), (3, .int x3), (4, .ref (a 0 4))]) dX6_row_8 (by decide) rfl [1, 2, 3, 4, 0] rfl rfl ?_
    refine lm_aload C dX6_row_10 4 rfl rfl ?_
    refine lm_iload_n C dX6_row_12 rfl 2 rfl rfl ?_
    obtain ⟨r13, qr13, hF⟩ := lm_bde hF
    refine lm_callVR C (n := 1) (ci := 5) (m_X5_has D z zo l (lm_sh 4 (a 0)) (lm_sh 4 (h 0)) x2 r13 qr13) gX6_row_X5_has rfl (by decide +kernel) ⟨Nat.le_of_ble_eq_true rfl, Nat.le_of_ble_eq_true rfl⟩ ⟨Nat.le_of_ble_eq_true rfl, Nat.le_of_ble_eq_true rfl⟩ 9 rfl rfl (fun q hq => lm_s0 z zo m a h q (st_s4 z (a 0) (h 0) q hq)) rfl rfl (Nat.le_of_ble_eq_true rfl) dX6_row_13 (st' := [.int r13]) rfl rfl ?_
    refine lm_if_eq C (tgt := 27) dX6_row_16 (by decide) rfl (fun c14 => ?_) (fun c14 => ?_)
    · have hF := lm_brt hF c14
      refine lm_iconst C (v := (-1 : Int32)) dX6_row_27 (by decide) rfl ?_
      cases hF
      exact lm_iretR C hr hk rfl dX6_row_28
    · have hF := lm_brf hF c14
      refine lm_iload_n C dX6_row_19 rfl 3 rfl rfl ?_
      refine lm_iconst C (v := (2 : Int32)) dX6_row_20 (by decide) rfl ?_
      obtain ⟨r15, qr15, hF⟩ := lm_bde hF
      refine lm_callSR C (n := 2) (m_X6_isWithin D z zo l   x3 (2 : Int32) r15 qr15) gX6_row_X6_isWithin rfl (by decide +kernel) ⟨Nat.le_of_ble_eq_true rfl, Nat.le_of_ble_eq_true rfl⟩ ⟨Nat.le_of_ble_eq_true rfl, Nat.le_of_ble_eq_true rfl⟩ (fun _ h => absurd h List.not_mem_nil) rfl rfl (Nat.le_of_ble_eq_true rfl) dX6_row_21 (st' := [.int r15]) rfl rfl ?_
      refine lm_if_ne C (tgt := 29) dX6_row_24 (by decide) rfl (fun c16 => ?_) (fun c16 => ?_)
      · have hF := lm_brt hF c16
        refine lm_iload_n C dX6_row_29 rfl 3 rfl rfl ?_
        rcases Classical.em (x3 = (0 : Int32)) with c17 | c17
        · have hF := lm_brt hF c17
          refine lm_lookup C (off := 26) (tgt := 56) dX6_row_30 (by decide) (by rw [c17]; decide) (by decide) ?_
          refine lm_aload C dX6_row_56 4 rfl rfl ?_
          refine lm_iload_n C dX6_row_58 rfl 2 rfl rfl ?_
          obtain ⟨r18, qr18, hF⟩ := lm_bde hF
          refine lm_callVR C (n := 1) (ci := 5) (m_X5_key D z zo l (lm_sh 4 (a 0)) (lm_sh 4 (h 0)) x2 r18 qr18) gX6_row_X5_key rfl (by decide +kernel) ⟨Nat.le_of_ble_eq_true rfl, Nat.le_of_ble_eq_true rfl⟩ ⟨Nat.le_of_ble_eq_true rfl, Nat.le_of_ble_eq_true rfl⟩ 9 rfl rfl (fun q hq => lm_s0 z zo m a h q (st_s4 z (a 0) (h 0) q hq)) rfl rfl (Nat.le_of_ble_eq_true rfl) dX6_row_59 (st' := [.int r18]) rfl rfl ?_
          cases hF
          exact lm_iretR C hr hk rfl dX6_row_62
        · have hF := lm_brf hF c17
          rcases Classical.em (x3 = (1 : Int32)) with c19 | c19
          · have hF := lm_brt hF c19
            refine lm_lookup C (off := 33) (tgt := 63) dX6_row_30 (by decide) (by rw [c19]; decide) (by decide) ?_
            refine lm_aload C dX6_row_63 4 rfl rfl ?_
            refine lm_iload_n C dX6_row_65 rfl 2 rfl rfl ?_
            obtain ⟨r20, qr20, hF⟩ := lm_bde hF
            refine lm_callVR C (n := 1) (ci := 5) (m_X5_value D z zo l (lm_sh 4 (a 0)) (lm_sh 4 (h 0)) x2 r20 qr20) gX6_row_X5_value rfl (by decide +kernel) ⟨Nat.le_of_ble_eq_true rfl, Nat.le_of_ble_eq_true rfl⟩ ⟨Nat.le_of_ble_eq_true rfl, Nat.le_of_ble_eq_true rfl⟩ 9 rfl rfl (fun q hq => lm_s0 z zo m a h q (st_s4 z (a 0) (h 0) q hq)) rfl rfl (Nat.le_of_ble_eq_true rfl) dX6_row_66 (st' := [.int r20]) rfl rfl ?_
            cases hF
            exact lm_iretR C hr hk rfl dX6_row_69
          · have hF := lm_brf hF c19
            refine lm_lookup C (off := 40) (tgt := 70) dX6_row_30 (by decide) (by rw [lv_osw c17 (by decide)]; rw [lv_osw c19 (by decide)]; rfl) (by decide) ?_
            refine lm_iload_n C dX6_row_70 rfl 1 rfl rfl ?_
            refine lm_if_eq C (tgt := 88) dX6_row_71 (by decide) rfl (fun c21 => ?_) (fun c21 => ?_)
            · exact (by simp_all : False).elim
            · refine lm_aload_n C dX6_row_74 rfl 0 rfl rfl ?_
              refine lm_getf C (T := TX6) (N := 9) (v := .ref (a 0 0)) in6_X6_row 0 rfl rfl 0 (by decide) fl10_X6_row rfl rfl dX6_row_75 rfl ?_
              refine lm_iload_n C dX6_row_78 rfl 2 rfl rfl ?_
              obtain ⟨r22, qr22, hF⟩ := lm_bde hF
              refine lm_callVR C (n := 1) (ci := 4) (m_X4_isInRememberedAnswer D z zo l (a 0) (h 0) x2 r22 qr22) gX6_row_X4_isInRememberedAnswer rfl (by decide +kernel) ⟨Nat.le_of_ble_eq_true rfl, Nat.le_of_ble_eq_true rfl⟩ ⟨Nat.le_of_ble_eq_true rfl, Nat.le_of_ble_eq_true rfl⟩ 5 rfl rfl (lm_s0 z zo m a h) rfl rfl (Nat.le_of_ble_eq_true rfl) dX6_row_79 (st' := [.int r22]) rfl rfl ?_
              refine lm_if_eq C (tgt := 103) dX6_row_82 (by decide) rfl (fun c23 => ?_) (fun c23 => ?_)
              · have hF := lm_brt hF c23
                refine lm_iconst C (v := (0 : Int32)) dX6_row_103 (by decide) rfl ?_
                cases hF
                exact lm_iretR C hr hk rfl dX6_row_104
              · have hF := lm_brf hF c23
                refine lm_goto C (tgt := 99) dX6_row_85 (by decide) ?_
                refine lm_iconst C (v := (1 : Int32)) dX6_row_99 (by decide) rfl ?_
                refine lm_goto C (tgt := 104) dX6_row_100 (by decide) ?_
                cases hF
                exact lm_iretR C hr hk rfl dX6_row_104
      · have hF := lm_brf hF c16
        refine lm_iconst C (v := (-1 : Int32)) dX6_row_27 (by decide) rfl ?_
        cases hF
        exact lm_iretR C hr hk rfl dX6_row_28
def F_X6_answer (h : Nat → Hp) (x1 x2 : Int32) : Option Int32 :=
  lm_bd (F_X6_isKey x1) fun r1 =>
  lm_br (r1 = 0)
   (some (-1 : Int32))
   (lm_bd (F_X6_isWithin x2 (3 : Int32)) fun r3 =>
   lm_br (r3 = 0)
    (some (-1 : Int32))
    (lm_bd (F_X0_tell (lm_sh 7 (h 0)) x1 x2) fun r5 =>
    some r5))
theorem in6_X6_answer : ∀ w ∈ u_ws RX6 TX6 9, w ∈ wsX6_answer := by decide +kernel
theorem fl10_X6_answer : Cond.fieldLink RX6 10 "LoopMemo" "now" "LLoopMemo$State;" ∈ wsX6_answer := by decide +kernel
set_option maxRecDepth 100000 in
set_option maxHeartbeats 4000000 in
theorem m_X6_answer (D : va_G) (z zo : ClassId) (l : Launch) (m : Nat → Nat) (a : Nat → Nat → Nat) (h : Nat → Hp) (x1 x2 : Int32) (r : Int32)  (hF : F_X6_answer h x1 x2 = some r) : lm_CR D z zo l yX6_answer wsX6_answer 2 43 [.ref (m 0), .int x1, .int x2] (lmW z zo m a h) (some (.int r)) := by
  refine lm_CR.of (by decide) rfl (Nat.le_of_ble_eq_true rfl) (own := RX6) rfl ?_
  intro p e s m_ args below meth c C hr hk
  show lm_St p l e ({ frames := 2, cells := 0, slots := 0, locals := 43 }) s m_ args below meth c D (fun _ => False) 3 0 0 (lm_EndR below (some (.int r)) args s) true (lmW z zo m a h) 0 [(0, .ref (m 0)), (1, .int x1), (2, .int x2)] []
  rw [F_X6_answer] at hF
  refine lm_iload_n C dX6_answer_0 rfl 1 rfl rfl ?_
  obtain ⟨r1, qr1, hF⟩ := lm_bde hF
  refine lm_callSR C (n := 1) (m_X6_isKey D z zo l   x1 r1 qr1) gX6_answer_X6_isKey rfl (by decide +kernel) ⟨Nat.le_of_ble_eq_true rfl, Nat.le_of_ble_eq_true rfl⟩ ⟨Nat.le_of_ble_eq_true rfl, Nat.le_of_ble_eq_true rfl⟩ (fun _ h => absurd h List.not_mem_nil) rfl rfl (Nat.le_of_ble_eq_true rfl) dX6_answer_1 (st' := [.int r1]) rfl rfl ?_
  refine lm_if_eq C (tgt := 30) dX6_answer_4 (by decide) rfl (fun c2 => ?_) (fun c2 => ?_)
  · have hF := lm_brt hF c2
    refine lm_iconst C (v := (-1 : Int32)) dX6_answer_30 (by decide) rfl ?_
    cases hF
    exact lm_iretR C hr hk rfl dX6_answer_31
  · have hF := lm_brf hF c2
    refine lm_iload_n C dX6_answer_7 rfl 2 rfl rfl ?_
    refine lm_iconst C (v := (3 : Int32)) dX6_answer_8 (by decide) rfl ?_
    obtain ⟨r3, qr3, hF⟩ := lm_bde hF
    refine lm_callSR C (n := 2) (m_X6_isWithin D z zo l   x2 (3 : Int32) r3 qr3) gX6_answer_X6_isWithin rfl (by decide +kernel) ⟨Nat.le_of_ble_eq_true rfl, Nat.le_of_ble_eq_true rfl⟩ ⟨Nat.le_of_ble_eq_true rfl, Nat.le_of_ble_eq_true rfl⟩ (fun _ h => absurd h List.not_mem_nil) rfl rfl (Nat.le_of_ble_eq_true rfl) dX6_answer_9 (st' := [.int r3]) rfl rfl ?_
    refine lm_if_eq C (tgt := 30) dX6_answer_12 (by decide) rfl (fun c4 => ?_) (fun c4 => ?_)
    · have hF := lm_brt hF c4
      refine lm_iconst C (v := (-1 : Int32)) dX6_answer_30 (by decide) rfl ?_
      cases hF
      exact lm_iretR C hr hk rfl dX6_answer_31
    · have hF := lm_brf hF c4
      refine lm_aload_n C dX6_answer_15 rfl 0 rfl rfl ?_
      refine lm_getf C (T := TX6) (N := 9) (v := .ref (a 0 0)) in6_X6_answer 0 rfl rfl 0 (by decide) fl10_X6_answer rfl rfl dX6_answer_16 rfl ?_
      refine lm_callVR C (n := 0) (ci := 4) (m_X4_answers_1 D z zo l (a 0) (h 0)  ) gX6_answer_X4_answers rfl (by decide +kernel) ⟨Nat.le_of_ble_eq_true rfl, Nat.le_of_ble_eq_true rfl⟩ ⟨Nat.le_of_ble_eq_true rfl, Nat.le_of_ble_eq_true rfl⟩ 5 rfl rfl (lm_s0 z zo m a h) rfl rfl (Nat.le_of_ble_eq_true rfl) dX6_answer_19 (st' := [.ref (a 0 7)]) rfl rfl ?_
      refine lm_iload_n C dX6_answer_22 rfl 1 rfl rfl ?_
      refine lm_iload_n C dX6_answer_23 rfl 2 rfl rfl ?_
      obtain ⟨r5, qr5, hF⟩ := lm_bde hF
      refine lm_callVR C (n := 2) (ci := 0) (m_X0_tell D z zo l (lm_sh 7 (a 0)) (lm_sh 7 (h 0)) x1 x2 r5 qr5) gX6_answer_X0_tell rfl (by decide +kernel) ⟨Nat.le_of_ble_eq_true rfl, Nat.le_of_ble_eq_true rfl⟩ ⟨Nat.le_of_ble_eq_true rfl, Nat.le_of_ble_eq_true rfl⟩ 12 rfl rfl (fun q hq => lm_s0 z zo m a h q (st_s7 z (a 0) (h 0) q hq)) rfl rfl (Nat.le_of_ble_eq_true rfl) dX6_answer_24 (st' := [.int r5]) rfl rfl ?_
      refine lm_goto C (tgt := 31) dX6_answer_27 (by decide) ?_
      cases hF
      exact lm_iretR C hr hk rfl dX6_answer_31
def F_X6_remembered (h : Nat → Hp) (x1 x2 : Int32) : Option Int32 :=
  lm_bd (F_X6_isKey x1) fun r1 =>
  lm_br (r1 = 0)
   (some (-1 : Int32))
   (lm_bd (F_X6_isWithin x2 (5 : Int32)) fun r3 =>
   lm_br (¬ r3 = 0)
    (lm_bd (F_X2_holds (lm_sh 11 (h 0)) x1) fun r5 =>
    lm_br (¬ r5 = 0)
     (lm_br (x2 = (4 : Int32))
      (lm_bd (F_X2_uses (lm_sh 11 (h 0)) x1) fun r8 =>
      some r8)
      (lm_br (x2 = (5 : Int32))
       (lm_bd (F_X4_setting (h 0) (1 : Int32)) fun r10 =>
       lm_bd (F_X2_placeOf (lm_sh 11 (h 0)) x1 r10) fun r11 =>
       some r11)
       (lm_bd (F_X0_tell (lm_sh 7 (h 0)) x1 x2) fun r12 =>
       some r12)))
     (some (-4 : Int32)))
    (some (-1 : Int32)))
theorem in6_X6_remembered : ∀ w ∈ u_ws RX6 TX6 9, w ∈ wsX6_remembered := by decide +kernel
theorem fl10_X6_remembered : Cond.fieldLink RX6 10 "LoopMemo" "now" "LLoopMemo$State;" ∈ wsX6_remembered := by decide +kernel
set_option maxRecDepth 100000 in
set_option maxHeartbeats 4000000 in
theorem m_X6_remembered (D : va_G) (z zo : ClassId) (l : Launch) (m : Nat → Nat) (a : Nat → Nat → Nat) (h : Nat → Hp) (x1 x2 : Int32) (r : Int32)  (hF : F_X6_remembered h x1 x2 = some r) : lm_CR D z zo l yX6_remembered wsX6_remembered 2 46 [.ref (m 0), .int x1, .int x2] (lmW z zo m a h) (some (.int r)) := by
  refine lm_CR.of (by decide) rfl (Nat.le_of_ble_eq_true rfl) (own := RX6) rfl ?_
  intro p e s m_ args below meth c C hr hk
  show lm_St p l e ({ frames := 2, cells := 0, slots := 0, locals := 46 }) s m_ args below meth c D (fun _ => False) 3 0 0 (lm_EndR below (some (.int r)) args s) true (lmW z zo m a h) 0 [(0, .ref (m 0)), (1, .int x1), (2, .int x2)] []
  rw [F_X6_remembered] at hF
  refine lm_iload_n C dX6_remembered_0 rfl 1 rfl rfl ?_
  obtain ⟨r1, qr1, hF⟩ := lm_bde hF
  refine lm_callSR C (n := 1) (m_X6_isKey D z zo l   x1 r1 qr1) gX6_remembered_X6_isKey rfl (by decide +kernel) ⟨Nat.le_of_ble_eq_true rfl, Nat.le_of_ble_eq_true rfl⟩ ⟨Nat.le_of_ble_eq_true rfl, Nat.le_of_ble_eq_true rfl⟩ (fun _ h => absurd h List.not_mem_nil) rfl rfl (Nat.le_of_ble_eq_true rfl) dX6_remembered_1 (st' := [.int r1]) rfl rfl ?_
  refine lm_if_eq C (tgt := 15) dX6_remembered_4 (by decide) rfl (fun c2 => ?_) (fun c2 => ?_)
  · have hF := lm_brt hF c2
    refine lm_iconst C (v := (-1 : Int32)) dX6_remembered_15 (by decide) rfl ?_
    cases hF
    exact lm_iretR C hr hk rfl dX6_remembered_16
  · have hF := lm_brf hF c2
    refine lm_iload_n C dX6_remembered_7 rfl 2 rfl rfl ?_
    refine lm_iconst C (v := (5 : Int32)) dX6_remembered_8 (by decide) rfl ?_
    obtain ⟨r3, qr3, hF⟩ := lm_bde hF
    refine lm_callSR C (n := 2) (m_X6_isWithin D z zo l   x2 (5 : Int32) r3 qr3) gX6_remembered_X6_isWithin rfl (by decide +kernel) ⟨Nat.le_of_ble_eq_true rfl, Nat.le_of_ble_eq_true rfl⟩ ⟨Nat.le_of_ble_eq_true rfl, Nat.le_of_ble_eq_true rfl⟩ (fun _ h => absurd h List.not_mem_nil) rfl rfl (Nat.le_of_ble_eq_true rfl) dX6_remembered_9 (st' := [.int r3]) rfl rfl ?_
    refine lm_if_ne C (tgt := 17) dX6_remembered_12 (by decide) rfl (fun c4 => ?_) (fun c4 => ?_)
    · have hF := lm_brt hF c4
      refine lm_aload_n C dX6_remembered_17 rfl 0 rfl rfl ?_
      refine lm_getf C (T := TX6) (N := 9) (v := .ref (a 0 0)) in6_X6_remembered 0 rfl rfl 0 (by decide) fl10_X6_remembered rfl rfl dX6_remembered_18 rfl ?_
      refine lm_callVR C (n := 0) (ci := 4) (m_X4_memo_1 D z zo l (a 0) (h 0)  ) gX6_remembered_X4_memo rfl (by decide +kernel) ⟨Nat.le_of_ble_eq_true rfl, Nat.le_of_ble_eq_true rfl⟩ ⟨Nat.le_of_ble_eq_true rfl, Nat.le_of_ble_eq_true rfl⟩ 5 rfl rfl (lm_s0 z zo m a h) rfl rfl (Nat.le_of_ble_eq_true rfl) dX6_remembered_21 (st' := [.ref (a 0 11)]) rfl rfl ?_
      refine lm_iload_n C dX6_remembered_24 rfl 1 rfl rfl ?_
      obtain ⟨r5, qr5, hF⟩ := lm_bde hF
      refine lm_callVR C (n := 1) (ci := 2) (m_X2_holds D z zo l (lm_sh 11 (a 0)) (lm_sh 11 (h 0)) x1 r5 qr5) gX6_remembered_X2_holds rfl (by decide +kernel) ⟨Nat.le_of_ble_eq_true rfl, Nat.le_of_ble_eq_true rfl⟩ ⟨Nat.le_of_ble_eq_true rfl, Nat.le_of_ble_eq_true rfl⟩ 16 rfl rfl (fun q hq => lm_s0 z zo m a h q (st_s11 z (a 0) (h 0) q hq)) rfl rfl (Nat.le_of_ble_eq_true rfl) dX6_remembered_25 (st' := [.int r5]) rfl rfl ?_
      refine lm_if_ne C (tgt := 34) dX6_remembered_28 (by decide) rfl (fun c6 => ?_) (fun c6 => ?_)
      · have hF := lm_brt hF c6
        refine lm_iload_n C dX6_remembered_34 rfl 2 rfl rfl ?_
        rcases Classical.em (x2 = (4 : Int32)) with c7 | c7
        · have hF := lm_brt hF c7
          refine lm_lookup C (off := 25) (tgt := 60) dX6_remembered_35 (by decide) (by rw [c7]; decide) (by decide) ?_
          refine lm_aload_n C dX6_remembered_60 rfl 0 rfl rfl ?_
          refine lm_getf C (T := TX6) (N := 9) (v := .ref (a 0 0)) in6_X6_remembered 0 rfl rfl 0 (by decide) fl10_X6_remembered rfl rfl dX6_remembered_61 rfl ?_
          refine lm_callVR C (n := 0) (ci := 4) (m_X4_memo_1 D z zo l (a 0) (h 0)  ) gX6_remembered_X4_memo rfl (by decide +kernel) ⟨Nat.le_of_ble_eq_true rfl, Nat.le_of_ble_eq_true rfl⟩ ⟨Nat.le_of_ble_eq_true rfl, Nat.le_of_ble_eq_true rfl⟩ 5 rfl rfl (lm_s0 z zo m a h) rfl rfl (Nat.le_of_ble_eq_true rfl) dX6_remembered_64 (st' := [.ref (a 0 11)]) rfl rfl ?_
          refine lm_iload_n C dX6_remembered_67 rfl 1 rfl rfl ?_
          obtain ⟨r8, qr8, hF⟩ := lm_bde hF
          refine lm_callVR C (n := 1) (ci := 2) (m_X2_uses D z zo l (lm_sh 11 (a 0)) (lm_sh 11 (h 0)) x1 r8 qr8) gX6_remembered_X2_uses rfl (by decide +kernel) ⟨Nat.le_of_ble_eq_true rfl, Nat.le_of_ble_eq_true rfl⟩ ⟨Nat.le_of_ble_eq_true rfl, Nat.le_of_ble_eq_true rfl⟩ 16 rfl rfl (fun q hq => lm_s0 z zo m a h q (st_s11 z (a 0) (h 0) q hq)) rfl rfl (Nat.le_of_ble_eq_true rfl) dX6_remembered_68 (st' := [.int r8]) rfl rfl ?_
          cases hF
          exact lm_iretR C hr hk rfl dX6_remembered_71
        · have hF := lm_brf hF c7
          rcases Classical.em (x2 = (5 : Int32)) with c9 | c9
          · have hF := lm_brt hF c9
            refine lm_lookup C (off := 37) (tgt := 72) dX6_remembered_35 (by decide) (by rw [c9]; decide) (by decide) ?_
            refine lm_aload_n C dX6_remembered_72 rfl 0 rfl rfl ?_
            refine lm_getf C (T := TX6) (N := 9) (v := .ref (a 0 0)) in6_X6_remembered 0 rfl rfl 0 (by decide) fl10_X6_remembered rfl rfl dX6_remembered_73 rfl ?_
            refine lm_callVR C (n := 0) (ci := 4) (m_X4_memo_1 D z zo l (a 0) (h 0)  ) gX6_remembered_X4_memo rfl (by decide +kernel) ⟨Nat.le_of_ble_eq_true rfl, Nat.le_of_ble_eq_true rfl⟩ ⟨Nat.le_of_ble_eq_true rfl, Nat.le_of_ble_eq_true rfl⟩ 5 rfl rfl (lm_s0 z zo m a h) rfl rfl (Nat.le_of_ble_eq_true rfl) dX6_remembered_76 (st' := [.ref (a 0 11)]) rfl rfl ?_
            refine lm_iload_n C dX6_remembered_79 rfl 1 rfl rfl ?_
            refine lm_aload_n C dX6_remembered_80 rfl 0 rfl rfl ?_
            refine lm_getf C (T := TX6) (N := 9) (v := .ref (a 0 0)) in6_X6_remembered 0 rfl rfl 0 (by decide) fl10_X6_remembered rfl rfl dX6_remembered_81 rfl ?_
            refine lm_iconst C (v := (1 : Int32)) dX6_remembered_84 (by decide) rfl ?_
            obtain ⟨r10, qr10, hF⟩ := lm_bde hF
            refine lm_callVR C (n := 1) (ci := 4) (m_X4_setting D z zo l (a 0) (h 0) (1 : Int32) r10 qr10) gX6_remembered_X4_setting rfl (by decide +kernel) ⟨Nat.le_of_ble_eq_true rfl, Nat.le_of_ble_eq_true rfl⟩ ⟨Nat.le_of_ble_eq_true rfl, Nat.le_of_ble_eq_true rfl⟩ 5 rfl rfl (lm_s0 z zo m a h) rfl rfl (Nat.le_of_ble_eq_true rfl) dX6_remembered_85 (st' := [.int r10, .int x1, .ref (a 0 11)]) rfl rfl ?_
            obtain ⟨r11, qr11, hF⟩ := lm_bde hF
            refine lm_callVR C (n := 2) (ci := 2) (m_X2_placeOf D z zo l (lm_sh 11 (a 0)) (lm_sh 11 (h 0)) x1 r10 r11 qr11) gX6_remembered_X2_placeOf rfl (by decide +kernel) ⟨Nat.le_of_ble_eq_true rfl, Nat.le_of_ble_eq_true rfl⟩ ⟨Nat.le_of_ble_eq_true rfl, Nat.le_of_ble_eq_true rfl⟩ 16 rfl rfl (fun q hq => lm_s0 z zo m a h q (st_s11 z (a 0) (h 0) q hq)) rfl rfl (Nat.le_of_ble_eq_true rfl) dX6_remembered_88 (st' := [.int r11]) rfl rfl ?_
            cases hF
            exact lm_iretR C hr hk rfl dX6_remembered_91
          · have hF := lm_brf hF c9
            refine lm_lookup C (off := 57) (tgt := 92) dX6_remembered_35 (by decide) (by rw [lv_osw c7 (by decide)]; rw [lv_osw c9 (by decide)]; rfl) (by decide) ?_
            refine lm_aload_n C dX6_remembered_92 rfl 0 rfl rfl ?_
            refine lm_getf C (T := TX6) (N := 9) (v := .ref (a 0 0)) in6_X6_remembered 0 rfl rfl 0 (by decide) fl10_X6_remembered rfl rfl dX6_remembered_93 rfl ?_
            refine lm_callVR C (n := 0) (ci := 4) (m_X4_answers_1 D z zo l (a 0) (h 0)  ) gX6_remembered_X4_answers rfl (by decide +kernel) ⟨Nat.le_of_ble_eq_true rfl, Nat.le_of_ble_eq_true rfl⟩ ⟨Nat.le_of_ble_eq_true rfl, Nat.le_of_ble_eq_true rfl⟩ 5 rfl rfl (lm_s0 z zo m a h) rfl rfl (Nat.le_of_ble_eq_true rfl) dX6_remembered_96 (st' := [.ref (a 0 7)]) rfl rfl ?_
            refine lm_iload_n C dX6_remembered_99 rfl 1 rfl rfl ?_
            refine lm_iload_n C dX6_remembered_100 rfl 2 rfl rfl ?_
            obtain ⟨r12, qr12, hF⟩ := lm_bde hF
            refine lm_callVR C (n := 2) (ci := 0) (m_X0_tell D z zo l (lm_sh 7 (a 0)) (lm_sh 7 (h 0)) x1 x2 r12 qr12) gX6_remembered_X0_tell rfl (by decide +kernel) ⟨Nat.le_of_ble_eq_true rfl, Nat.le_of_ble_eq_true rfl⟩ ⟨Nat.le_of_ble_eq_true rfl, Nat.le_of_ble_eq_true rfl⟩ 12 rfl rfl (fun q hq => lm_s0 z zo m a h q (st_s7 z (a 0) (h 0) q hq)) rfl rfl (Nat.le_of_ble_eq_true rfl) dX6_remembered_101 (st' := [.int r12]) rfl rfl ?_
            cases hF
            exact lm_iretR C hr hk rfl dX6_remembered_104
      · have hF := lm_brf hF c6
        refine lm_bipush C (v := (-4 : Int32)) dX6_remembered_31 (by decide) rfl ?_
        cases hF
        exact lm_iretR C hr hk rfl dX6_remembered_33
    · have hF := lm_brf hF c4
      refine lm_iconst C (v := (-1 : Int32)) dX6_remembered_15 (by decide) rfl ?_
      cases hF
      exact lm_iretR C hr hk rfl dX6_remembered_16
def F_X6_count (h : Nat → Hp) (x1 : Int32) : Option Int32 :=
  lm_br (x1 = (0 : Int32))
   (lm_bd (F_X5_size (lm_sh 1 (h 0))) fun r3 =>
   some r3)
   (lm_br (x1 = (1 : Int32))
    (lm_bd (F_X5_size (lm_sh 4 (h 0))) fun r6 =>
    some r6)
    (lm_br (x1 = (2 : Int32))
     (lm_bd (F_X2_size (lm_sh 11 (h 0))) fun r8 =>
     some r8)
     (lm_br (x1 = (3 : Int32))
      (lm_bd (F_X4_weightTogether (h 0)) fun r10 =>
      some r10)
      (lm_br (x1 = (4 : Int32))
       (lm_bd (F_X4_place (h 0)) fun r12 =>
       some r12)
       (lm_br (x1 = (5 : Int32))
        (lm_bd (F_X4_totalSoFar (h 0)) fun r14 =>
        some r14)
        (lm_br (x1 = (6 : Int32))
         (lm_bd (F_X6_isWithin x1 (19 : Int32)) fun r16 =>
         lm_br (r16 = 0)
          (some (-1 : Int32))
          (lm_bd (F_X4_tally (h 0) (x1 - (6 : Int32))) fun r18 =>
          some r18))
         (lm_br (x1 = (7 : Int32))
          (lm_bd (F_X6_isWithin x1 (19 : Int32)) fun r20 =>
          lm_br (r20 = 0)
           (some (-1 : Int32))
           (lm_bd (F_X4_tally (h 0) (x1 - (6 : Int32))) fun r22 =>
           some r22))
          (lm_br (x1 = (8 : Int32))
           (lm_bd (F_X6_isWithin x1 (19 : Int32)) fun r24 =>
           lm_br (r24 = 0)
            (some (-1 : Int32))
            (lm_bd (F_X4_tally (h 0) (x1 - (6 : Int32))) fun r26 =>
            some r26))
           (lm_br (x1 = (9 : Int32))
            (lm_bd (F_X6_isWithin x1 (19 : Int32)) fun r28 =>
            lm_br (r28 = 0)
             (some (-1 : Int32))
             (lm_bd (F_X4_tally (h 0) (x1 - (6 : Int32))) fun r30 =>
             some r30))
            (lm_br (x1 = (10 : Int32))
             (lm_bd (F_X6_isWithin x1 (19 : Int32)) fun r32 =>
             lm_br (r32 = 0)
              (some (-1 : Int32))
              (lm_bd (F_X4_tally (h 0) (x1 - (6 : Int32))) fun r34 =>
              some r34))
             (lm_br (x1 = (11 : Int32))
              (lm_bd (F_X6_isWithin x1 (19 : Int32)) fun r36 =>
              lm_br (r36 = 0)
               (some (-1 : Int32))
               (lm_bd (F_X4_tally (h 0) (x1 - (6 : Int32))) fun r38 =>
               some r38))
              (lm_br (x1 = (12 : Int32))
               (lm_bd (F_X6_isWithin x1 (19 : Int32)) fun r40 =>
               lm_br (r40 = 0)
                (some (-1 : Int32))
                (lm_bd (F_X4_tally (h 0) (x1 - (6 : Int32))) fun r42 =>
                some r42))
               (lm_br (x1 = (13 : Int32))
                (lm_bd (F_X4_setting (h 0) (x1 - (13 : Int32))) fun r44 =>
                some r44)
                (lm_br (x1 = (14 : Int32))
                 (lm_bd (F_X4_setting (h 0) (x1 - (13 : Int32))) fun r46 =>
                 some r46)
                 (lm_br (x1 = (15 : Int32))
                  (lm_bd (F_X4_setting (h 0) (x1 - (13 : Int32))) fun r48 =>
                  some r48)
                  (lm_br (x1 = (16 : Int32))
                   (lm_bd (F_X4_setting (h 0) (x1 - (13 : Int32))) fun r50 =>
                   some r50)
                   (lm_br (x1 = (17 : Int32))
                    (lm_bd (F_X4_setting (h 0) (x1 - (13 : Int32))) fun r52 =>
                    some r52)
                    (lm_br (x1 = (18 : Int32))
                     (lm_bd (F_X3_size (lm_sh 1 (h 8))) fun r54 =>
                     some r54)
                     (lm_br (x1 = (19 : Int32))
                      (lm_bd (F_X1_size h) fun r56 =>
                      some r56)
                      (lm_bd (F_X6_isWithin x1 (19 : Int32)) fun r57 =>
                      lm_br (r57 = 0)
                       (some (-1 : Int32))
                       (lm_bd (F_X4_tally (h 0) (x1 - (6 : Int32))) fun r59 =>
                       some r59)))))))))))))))))))))
theorem in6_X6_count : ∀ w ∈ u_ws RX6 TX6 9, w ∈ wsX6_count := by decide +kernel
theorem fl10_X6_count : Cond.fieldLink RX6 10 "LoopMemo" "now" "LLoopMemo$State;" ∈ wsX6_count := by decide +kernel
theorem fl32_X6_count : Cond.fieldLink RX6 32 "LoopMemo" "pad" "LLoopMemo$Pad;" ∈ wsX6_count := by decide +kernel
theorem fl25_X6_count : Cond.fieldLink RX6 25 "LoopMemo" "history" "LLoopMemo$History;" ∈ wsX6_count := by decide +kernel
set_option maxRecDepth 100000 in
set_option maxHeartbeats 4000000 in
theorem m_X6_count (D : va_G) (z zo : ClassId) (l : Launch) (m : Nat → Nat) (a : Nat → Nat → Nat) (h : Nat → Hp) (x1 : Int32) (r : Int32)  (hF : F_X6_count h x1 = some r) : lm_CR D z zo l yX6_count wsX6_count 2 43 [.ref (m 0), .int x1] (lmW z zo m a h) (some (.int r)) := by
  refine lm_CR.of (by decide) rfl (Nat.le_of_ble_eq_true rfl) (own := RX6) rfl ?_
  intro p e s m_ args below meth c C hr hk
  show lm_St p l e ({ frames := 2, cells := 0, slots := 0, locals := 43 }) s m_ args below meth c D (fun _ => False) 2 0 0 (lm_EndR below (some (.int r)) args s) true (lmW z zo m a h) 0 [(0, .ref (m 0)), (1, .int x1)] []
  rw [F_X6_count] at hF
  refine lm_iload_n C dX6_count_0 rfl 1 rfl rfl ?_
  rcases Classical.em (x1 = (0 : Int32)) with c1 | c1
  · have hF := lm_brt hF c1
    refine lm_tableIn C (0 : Int32) (off := 95) (tgt := 96) dX6_count_1 c1 (by decide) (by decide) (by decide) (by decide) ?_
    refine lm_aload_n C dX6_count_96 rfl 0 rfl rfl ?_
    refine lm_getf C (T := TX6) (N := 9) (v := .ref (a 0 0)) in6_X6_count 0 rfl rfl 0 (by decide) fl10_X6_count rfl rfl dX6_count_97 rfl ?_
    refine lm_iconst C (v := (0 : Int32)) dX6_count_100 (by decide) rfl ?_
    refine lm_callVR C (n := 1) (ci := 4) (m_X4_table_1 D z zo l (a 0) (h 0) (0 : Int32) (by decide)) gX6_count_X4_table rfl (by decide +kernel) ⟨Nat.le_of_ble_eq_true rfl, Nat.le_of_ble_eq_true rfl⟩ ⟨Nat.le_of_ble_eq_true rfl, Nat.le_of_ble_eq_true rfl⟩ 5 rfl rfl (lm_s0 z zo m a h) rfl rfl (Nat.le_of_ble_eq_true rfl) dX6_count_101 (st' := [.ref (a 0 1)]) rfl rfl ?_
    obtain ⟨r3, qr3, hF⟩ := lm_bde hF
    refine lm_callVR C (n := 0) (ci := 5) (m_X5_size D z zo l (lm_sh 1 (a 0)) (lm_sh 1 (h 0))  r3 qr3) gX6_count_X5_size rfl (by decide +kernel) ⟨Nat.le_of_ble_eq_true rfl, Nat.le_of_ble_eq_true rfl⟩ ⟨Nat.le_of_ble_eq_true rfl, Nat.le_of_ble_eq_true rfl⟩ 6 rfl rfl (fun q hq => lm_s0 z zo m a h q (st_s1 z (a 0) (h 0) q hq)) rfl rfl (Nat.le_of_ble_eq_true rfl) dX6_count_104 (st' := [.int r3]) rfl rfl ?_
    cases hF
    exact lm_iretR C hr hk rfl dX6_count_107
  · have hF := lm_brf hF c1
    rcases Classical.em (x1 = (1 : Int32)) with c4 | c4
    · have hF := lm_brt hF c4
      refine lm_tableIn C (1 : Int32) (off := 107) (tgt := 108) dX6_count_1 c4 (by decide) (by decide) (by decide) (by decide) ?_
      refine lm_aload_n C dX6_count_108 rfl 0 rfl rfl ?_
      refine lm_getf C (T := TX6) (N := 9) (v := .ref (a 0 0)) in6_X6_count 0 rfl rfl 0 (by decide) fl10_X6_count rfl rfl dX6_count_109 rfl ?_
      refine lm_iconst C (v := (1 : Int32)) dX6_count_112 (by decide) rfl ?_
      refine lm_callVR C (n := 1) (ci := 4) (m_X4_table_2 D z zo l (a 0) (h 0) (1 : Int32) (by decide)) gX6_count_X4_table rfl (by decide +kernel) ⟨Nat.le_of_ble_eq_true rfl, Nat.le_of_ble_eq_true rfl⟩ ⟨Nat.le_of_ble_eq_true rfl, Nat.le_of_ble_eq_true rfl⟩ 5 rfl rfl (lm_s0 z zo m a h) rfl rfl (Nat.le_of_ble_eq_true rfl) dX6_count_113 (st' := [.ref (a 0 4)]) rfl rfl ?_
      obtain ⟨r6, qr6, hF⟩ := lm_bde hF
      refine lm_callVR C (n := 0) (ci := 5) (m_X5_size D z zo l (lm_sh 4 (a 0)) (lm_sh 4 (h 0))  r6 qr6) gX6_count_X5_size rfl (by decide +kernel) ⟨Nat.le_of_ble_eq_true rfl, Nat.le_of_ble_eq_true rfl⟩ ⟨Nat.le_of_ble_eq_true rfl, Nat.le_of_ble_eq_true rfl⟩ 9 rfl rfl (fun q hq => lm_s0 z zo m a h q (st_s4 z (a 0) (h 0) q hq)) rfl rfl (Nat.le_of_ble_eq_true rfl) dX6_count_116 (st' := [.int r6]) rfl rfl ?_
      cases hF
      exact lm_iretR C hr hk rfl dX6_count_119
    · have hF := lm_brf hF c4
      rcases Classical.em (x1 = (2 : Int32)) with c7 | c7
      · have hF := lm_brt hF c7
        refine lm_tableIn C (2 : Int32) (off := 119) (tgt := 120) dX6_count_1 c7 (by decide) (by decide) (by decide) (by decide) ?_
        refine lm_aload_n C dX6_count_120 rfl 0 rfl rfl ?_
        refine lm_getf C (T := TX6) (N := 9) (v := .ref (a 0 0)) in6_X6_count 0 rfl rfl 0 (by decide) fl10_X6_count rfl rfl dX6_count_121 rfl ?_
        refine lm_callVR C (n := 0) (ci := 4) (m_X4_memo_1 D z zo l (a 0) (h 0)  ) gX6_count_X4_memo rfl (by decide +kernel) ⟨Nat.le_of_ble_eq_true rfl, Nat.le_of_ble_eq_true rfl⟩ ⟨Nat.le_of_ble_eq_true rfl, Nat.le_of_ble_eq_true rfl⟩ 5 rfl rfl (lm_s0 z zo m a h) rfl rfl (Nat.le_of_ble_eq_true rfl) dX6_count_124 (st' := [.ref (a 0 11)]) rfl rfl ?_
        obtain ⟨r8, qr8, hF⟩ := lm_bde hF
        refine lm_callVR C (n := 0) (ci := 2) (m_X2_size D z zo l (lm_sh 11 (a 0)) (lm_sh 11 (h 0))  r8 qr8) gX6_count_X2_size rfl (by decide +kernel) ⟨Nat.le_of_ble_eq_true rfl, Nat.le_of_ble_eq_true rfl⟩ ⟨Nat.le_of_ble_eq_true rfl, Nat.le_of_ble_eq_true rfl⟩ 16 rfl rfl (fun q hq => lm_s0 z zo m a h q (st_s11 z (a 0) (h 0) q hq)) rfl rfl (Nat.le_of_ble_eq_true rfl) dX6_count_127 (st' := [.int r8]) rfl rfl ?_
        cases hF
        exact lm_iretR C hr hk rfl dX6_count_130
      · have hF := lm_brf hF c7
        rcases Classical.em (x1 = (3 : Int32)) with c9 | c9
        · have hF := lm_brt hF c9
          refine lm_tableIn C (3 : Int32) (off := 130) (tgt := 131) dX6_count_1 c9 (by decide) (by decide) (by decide) (by decide) ?_
          refine lm_aload_n C dX6_count_131 rfl 0 rfl rfl ?_
          refine lm_getf C (T := TX6) (N := 9) (v := .ref (a 0 0)) in6_X6_count 0 rfl rfl 0 (by decide) fl10_X6_count rfl rfl dX6_count_132 rfl ?_
          obtain ⟨r10, qr10, hF⟩ := lm_bde hF
          refine lm_callVR C (n := 0) (ci := 4) (m_X4_weightTogether D z zo l (a 0) (h 0)  r10 qr10) gX6_count_X4_weightTogether rfl (by decide +kernel) ⟨Nat.le_of_ble_eq_true rfl, Nat.le_of_ble_eq_true rfl⟩ ⟨Nat.le_of_ble_eq_true rfl, Nat.le_of_ble_eq_true rfl⟩ 5 rfl rfl (lm_s0 z zo m a h) rfl rfl (Nat.le_of_ble_eq_true rfl) dX6_count_135 (st' := [.int r10]) rfl rfl ?_
          cases hF
          exact lm_iretR C hr hk rfl dX6_count_138
        · have hF := lm_brf hF c9
          rcases Classical.em (x1 = (4 : Int32)) with c11 | c11
          · have hF := lm_brt hF c11
            refine lm_tableIn C (4 : Int32) (off := 138) (tgt := 139) dX6_count_1 c11 (by decide) (by decide) (by decide) (by decide) ?_
            refine lm_aload_n C dX6_count_139 rfl 0 rfl rfl ?_
            refine lm_getf C (T := TX6) (N := 9) (v := .ref (a 0 0)) in6_X6_count 0 rfl rfl 0 (by decide) fl10_X6_count rfl rfl dX6_count_140 rfl ?_
            obtain ⟨r12, qr12, hF⟩ := lm_bde hF
            refine lm_callVR C (n := 0) (ci := 4) (m_X4_place D z zo l (a 0) (h 0)  r12 qr12) gX6_count_X4_place rfl (by decide +kernel) ⟨Nat.le_of_ble_eq_true rfl, Nat.le_of_ble_eq_true rfl⟩ ⟨Nat.le_of_ble_eq_true rfl, Nat.le_of_ble_eq_true rfl⟩ 5 rfl rfl (lm_s0 z zo m a h) rfl rfl (Nat.le_of_ble_eq_true rfl) dX6_count_143 (st' := [.int r12]) rfl rfl ?_
            cases hF
            exact lm_iretR C hr hk rfl dX6_count_146
          · have hF := lm_brf hF c11
            rcases Classical.em (x1 = (5 : Int32)) with c13 | c13
            · have hF := lm_brt hF c13
              refine lm_tableIn C (5 : Int32) (off := 146) (tgt := 147) dX6_count_1 c13 (by decide) (by decide) (by decide) (by decide) ?_
              refine lm_aload_n C dX6_count_147 rfl 0 rfl rfl ?_
              refine lm_getf C (T := TX6) (N := 9) (v := .ref (a 0 0)) in6_X6_count 0 rfl rfl 0 (by decide) fl10_X6_count rfl rfl dX6_count_148 rfl ?_
              obtain ⟨r14, qr14, hF⟩ := lm_bde hF
              refine lm_callVR C (n := 0) (ci := 4) (m_X4_totalSoFar D z zo l (a 0) (h 0)  r14 qr14) gX6_count_X4_totalSoFar rfl (by decide +kernel) ⟨Nat.le_of_ble_eq_true rfl, Nat.le_of_ble_eq_true rfl⟩ ⟨Nat.le_of_ble_eq_true rfl, Nat.le_of_ble_eq_true rfl⟩ 5 rfl rfl (lm_s0 z zo m a h) rfl rfl (Nat.le_of_ble_eq_true rfl) dX6_count_151 (st' := [.int r14]) rfl rfl ?_
              cases hF
              exact lm_iretR C hr hk rfl dX6_count_154
            · have hF := lm_brf hF c13
              rcases Classical.em (x1 = (6 : Int32)) with c15 | c15
              · have hF := lm_brt hF c15
                refine lm_tableIn C (6 : Int32) (off := 182) (tgt := 183) dX6_count_1 c15 (by decide) (by decide) (by decide) (by decide) ?_
                refine lm_iload_n C dX6_count_183 rfl 1 rfl rfl ?_
                refine lm_bipush C (v := (19 : Int32)) dX6_count_184 (by decide) rfl ?_
                obtain ⟨r16, qr16, hF⟩ := lm_bde hF
                refine lm_callSR C (n := 2) (m_X6_isWithin D z zo l   x1 (19 : Int32) r16 qr16) gX6_count_X6_isWithin rfl (by decide +kernel) ⟨Nat.le_of_ble_eq_true rfl, Nat.le_of_ble_eq_true rfl⟩ ⟨Nat.le_of_ble_eq_true rfl, Nat.le_of_ble_eq_true rfl⟩ (fun _ h => absurd h List.not_mem_nil) rfl rfl (Nat.le_of_ble_eq_true rfl) dX6_count_186 (st' := [.int r16]) rfl rfl ?_
                refine lm_if_eq C (tgt := 206) dX6_count_189 (by decide) rfl (fun c17 => ?_) (fun c17 => ?_)
                · have hF := lm_brt hF c17
                  refine lm_iconst C (v := (-1 : Int32)) dX6_count_206 (by decide) rfl ?_
                  cases hF
                  exact lm_iretR C hr hk rfl dX6_count_207
                · have hF := lm_brf hF c17
                  refine lm_aload_n C dX6_count_192 rfl 0 rfl rfl ?_
                  refine lm_getf C (T := TX6) (N := 9) (v := .ref (a 0 0)) in6_X6_count 0 rfl rfl 0 (by decide) fl10_X6_count rfl rfl dX6_count_193 rfl ?_
                  refine lm_iload_n C dX6_count_196 rfl 1 rfl rfl ?_
                  refine lm_bipush C (v := (6 : Int32)) dX6_count_197 (by decide) rfl ?_
                  refine lm_isub C dX6_count_199 rfl rfl ?_
                  obtain ⟨r18, qr18, hF⟩ := lm_bde hF
                  refine lm_callVR C (n := 1) (ci := 4) (m_X4_tally D z zo l (a 0) (h 0) (x1 - (6 : Int32)) r18 qr18) gX6_count_X4_tally rfl (by decide +kernel) ⟨Nat.le_of_ble_eq_true rfl, Nat.le_of_ble_eq_true rfl⟩ ⟨Nat.le_of_ble_eq_true rfl, Nat.le_of_ble_eq_true rfl⟩ 5 rfl rfl (lm_s0 z zo m a h) rfl rfl (Nat.le_of_ble_eq_true rfl) dX6_count_200 (st' := [.int r18]) rfl rfl ?_
                  refine lm_goto C (tgt := 207) dX6_count_203 (by decide) ?_
                  cases hF
                  exact lm_iretR C hr hk rfl dX6_count_207
              · have hF := lm_brf hF c15
                rcases Classical.em (x1 = (7 : Int32)) with c19 | c19
                · have hF := lm_brt hF c19
                  refine lm_tableIn C (7 : Int32) (off := 182) (tgt := 183) dX6_count_1 c19 (by decide) (by decide) (by decide) (by decide) ?_
                  refine lm_iload_n C dX6_count_183 rfl 1 rfl rfl ?_
                  refine lm_bipush C (v := (19 : Int32)) dX6_count_184 (by decide) rfl ?_
                  obtain ⟨r20, qr20, hF⟩ := lm_bde hF
                  refine lm_callSR C (n := 2) (m_X6_isWithin D z zo l   x1 (19 : Int32) r20 qr20) gX6_count_X6_isWithin rfl (by decide +kernel) ⟨Nat.le_of_ble_eq_true rfl, Nat.le_of_ble_eq_true rfl⟩ ⟨Nat.le_of_ble_eq_true rfl, Nat.le_of_ble_eq_true rfl⟩ (fun _ h => absurd h List.not_mem_nil) rfl rfl (Nat.le_of_ble_eq_true rfl) dX6_count_186 (st' := [.int r20]) rfl rfl ?_
                  refine lm_if_eq C (tgt := 206) dX6_count_189 (by decide) rfl (fun c21 => ?_) (fun c21 => ?_)
                  · have hF := lm_brt hF c21
                    refine lm_iconst C (v := (-1 : Int32)) dX6_count_206 (by decide) rfl ?_
                    cases hF
                    exact lm_iretR C hr hk rfl dX6_count_207
                  · have hF := lm_brf hF c21
                    refine lm_aload_n C dX6_count_192 rfl 0 rfl rfl ?_
                    refine lm_getf C (T := TX6) (N := 9) (v := .ref (a 0 0)) in6_X6_count 0 rfl rfl 0 (by decide) fl10_X6_count rfl rfl dX6_count_193 rfl ?_
                    refine lm_iload_n C dX6_count_196 rfl 1 rfl rfl ?_
                    refine lm_bipush C (v := (6 : Int32)) dX6_count_197 (by decide) rfl ?_
                    refine lm_isub C dX6_count_199 rfl rfl ?_
                    obtain ⟨r22, qr22, hF⟩ := lm_bde hF
                    refine lm_callVR C (n := 1) (ci := 4) (m_X4_tally D z zo l (a 0) (h 0) (x1 - (6 : Int32)) r22 qr22) gX6_count_X4_tally rfl (by decide +kernel) ⟨Nat.le_of_ble_eq_true rfl, Nat.le_of_ble_eq_true rfl⟩ ⟨Nat.le_of_ble_eq_true rfl, Nat.le_of_ble_eq_true rfl⟩ 5 rfl rfl (lm_s0 z zo m a h) rfl rfl (Nat.le_of_ble_eq_true rfl) dX6_count_200 (st' := [.int r22]) rfl rfl ?_
                    refine lm_goto C (tgt := 207) dX6_count_203 (by decide) ?_
                    cases hF
                    exact lm_iretR C hr hk rfl dX6_count_207
                · have hF := lm_brf hF c19
                  rcases Classical.em (x1 = (8 : Int32)) with c23 | c23
                  · have hF := lm_brt hF c23
                    refine lm_tableIn C (8 : Int32) (off := 182) (tgt := 183) dX6_count_1 c23 (by decide) (by decide) (by decide) (by decide) ?_
                    refine lm_iload_n C dX6_count_183 rfl 1 rfl rfl ?_
                    refine lm_bipush C (v := (19 : Int32)) dX6_count_184 (by decide) rfl ?_
                    obtain ⟨r24, qr24, hF⟩ := lm_bde hF
                    refine lm_callSR C (n := 2) (m_X6_isWithin D z zo l   x1 (19 : Int32) r24 qr24) gX6_count_X6_isWithin rfl (by decide +kernel) ⟨Nat.le_of_ble_eq_true rfl, Nat.le_of_ble_eq_true rfl⟩ ⟨Nat.le_of_ble_eq_true rfl, Nat.le_of_ble_eq_true rfl⟩ (fun _ h => absurd h List.not_mem_nil) rfl rfl (Nat.le_of_ble_eq_true rfl) dX6_count_186 (st' := [.int r24]) rfl rfl ?_
                    refine lm_if_eq C (tgt := 206) dX6_count_189 (by decide) rfl (fun c25 => ?_) (fun c25 => ?_)
                    · have hF := lm_brt hF c25
                      refine lm_iconst C (v := (-1 : Int32)) dX6_count_206 (by decide) rfl ?_
                      cases hF
                      exact lm_iretR C hr hk rfl dX6_count_207
                    · have hF := lm_brf hF c25
                      refine lm_aload_n C dX6_count_192 rfl 0 rfl rfl ?_
                      refine lm_getf C (T := TX6) (N := 9) (v := .ref (a 0 0)) in6_X6_count 0 rfl rfl 0 (by decide) fl10_X6_count rfl rfl dX6_count_193 rfl ?_
                      refine lm_iload_n C dX6_count_196 rfl 1 rfl rfl ?_
                      refine lm_bipush C (v := (6 : Int32)) dX6_count_197 (by decide) rfl ?_
                      refine lm_isub C dX6_count_199 rfl rfl ?_
                      obtain ⟨r26, qr26, hF⟩ := lm_bde hF
                      refine lm_callVR C (n := 1) (ci := 4) (m_X4_tally D z zo l (a 0) (h 0) (x1 - (6 : Int32)) r26 qr26) gX6_count_X4_tally rfl (by decide +kernel) ⟨Nat.le_of_ble_eq_true rfl, Nat.le_of_ble_eq_true rfl⟩ ⟨Nat.le_of_ble_eq_true rfl, Nat.le_of_ble_eq_true rfl⟩ 5 rfl rfl (lm_s0 z zo m a h) rfl rfl (Nat.le_of_ble_eq_true rfl) dX6_count_200 (st' := [.int r26]) rfl rfl ?_
                      refine lm_goto C (tgt := 207) dX6_count_203 (by decide) ?_
                      cases hF
                      exact lm_iretR C hr hk rfl dX6_count_207
                  · have hF := lm_brf hF c23
                    rcases Classical.em (x1 = (9 : Int32)) with c27 | c27
                    · have hF := lm_brt hF c27
                      refine lm_tableIn C (9 : Int32) (off := 182) (tgt := 183) dX6_count_1 c27 (by decide) (by decide) (by decide) (by decide) ?_
                      refine lm_iload_n C dX6_count_183 rfl 1 rfl rfl ?_
                      refine lm_bipush C (v := (19 : Int32)) dX6_count_184 (by decide) rfl ?_
                      obtain ⟨r28, qr28, hF⟩ := lm_bde hF
                      refine lm_callSR C (n := 2) (m_X6_isWithin D z zo l   x1 (19 : Int32) r28 qr28) gX6_count_X6_isWithin rfl (by decide +kernel) ⟨Nat.le_of_ble_eq_true rfl, Nat.le_of_ble_eq_true rfl⟩ ⟨Nat.le_of_ble_eq_true rfl, Nat.le_of_ble_eq_true rfl⟩ (fun _ h => absurd h List.not_mem_nil) rfl rfl (Nat.le_of_ble_eq_true rfl) dX6_count_186 (st' := [.int r28]) rfl rfl ?_
                      refine lm_if_eq C (tgt := 206) dX6_count_189 (by decide) rfl (fun c29 => ?_) (fun c29 => ?_)
                      · have hF := lm_brt hF c29
                        refine lm_iconst C (v := (-1 : Int32)) dX6_count_206 (by decide) rfl ?_
                        cases hF
                        exact lm_iretR C hr hk rfl dX6_count_207
                      · have hF := lm_brf hF c29
                        refine lm_aload_n C dX6_count_192 rfl 0 rfl rfl ?_
                        refine lm_getf C (T := TX6) (N := 9) (v := .ref (a 0 0)) in6_X6_count 0 rfl rfl 0 (by decide) fl10_X6_count rfl rfl dX6_count_193 rfl ?_
                        refine lm_iload_n C dX6_count_196 rfl 1 rfl rfl ?_
                        refine lm_bipush C (v := (6 : Int32)) dX6_count_197 (by decide) rfl ?_
                        refine lm_isub C dX6_count_199 rfl rfl ?_
                        obtain ⟨r30, qr30, hF⟩ := lm_bde hF
                        refine lm_callVR C (n := 1) (ci := 4) (m_X4_tally D z zo l (a 0) (h 0) (x1 - (6 : Int32)) r30 qr30) gX6_count_X4_tally rfl (by decide +kernel) ⟨Nat.le_of_ble_eq_true rfl, Nat.le_of_ble_eq_true rfl⟩ ⟨Nat.le_of_ble_eq_true rfl, Nat.le_of_ble_eq_true rfl⟩ 5 rfl rfl (lm_s0 z zo m a h) rfl rfl (Nat.le_of_ble_eq_true rfl) dX6_count_200 (st' := [.int r30]) rfl rfl ?_
                        refine lm_goto C (tgt := 207) dX6_count_203 (by decide) ?_
                        cases hF
                        exact lm_iretR C hr hk rfl dX6_count_207
                    · have hF := lm_brf hF c27
                      rcases Classical.em (x1 = (10 : Int32)) with c31 | c31
                      · have hF := lm_brt hF c31
                        refine lm_tableIn C (10 : Int32) (off := 182) (tgt := 183) dX6_count_1 c31 (by decide) (by decide) (by decide) (by decide) ?_
                        refine lm_iload_n C dX6_count_183 rfl 1 rfl rfl ?_
                        refine lm_bipush C (v := (19 : Int32)) dX6_count_184 (by decide) rfl ?_
                        obtain ⟨r32, qr32, hF⟩ := lm_bde hF
                        refine lm_callSR C (n := 2) (m_X6_isWithin D z zo l   x1 (19 : Int32) r32 qr32) gX6_count_X6_isWithin rfl (by decide +kernel) ⟨Nat.le_of_ble_eq_true rfl, Nat.le_of_ble_eq_true rfl⟩ ⟨Nat.le_of_ble_eq_true rfl, Nat.le_of_ble_eq_true rfl⟩ (fun _ h => absurd h List.not_mem_nil) rfl rfl (Nat.le_of_ble_eq_true rfl) dX6_count_186 (st' := [.int r32]) rfl rfl ?_
                        refine lm_if_eq C (tgt := 206) dX6_count_189 (by decide) rfl (fun c33 => ?_) (fun c33 => ?_)
                        · have hF := lm_brt hF c33
                          refine lm_iconst C (v := (-1 : Int32)) dX6_count_206 (by decide) rfl ?_
                          cases hF
                          exact lm_iretR C hr hk rfl dX6_count_207
                        · have hF := lm_brf hF c33
                          refine lm_aload_n C dX6_count_192 rfl 0 rfl rfl ?_
                          refine lm_getf C (T := TX6) (N := 9) (v := .ref (a 0 0)) in6_X6_count 0 rfl rfl 0 (by decide) fl10_X6_count rfl rfl dX6_count_193 rfl ?_
                          refine lm_iload_n C dX6_count_196 rfl 1 rfl rfl ?_
                          refine lm_bipush C (v := (6 : Int32)) dX6_count_197 (by decide) rfl ?_
                          refine lm_isub C dX6_count_199 rfl rfl ?_
                          obtain ⟨r34, qr34, hF⟩ := lm_bde hF
                          refine lm_callVR C (n := 1) (ci := 4) (m_X4_tally D z zo l (a 0) (h 0) (x1 - (6 : Int32)) r34 qr34) gX6_count_X4_tally rfl (by decide +kernel) ⟨Nat.le_of_ble_eq_true rfl, Nat.le_of_ble_eq_true rfl⟩ ⟨Nat.le_of_ble_eq_true rfl, Nat.le_of_ble_eq_true rfl⟩ 5 rfl rfl (lm_s0 z zo m a h) rfl rfl (Nat.le_of_ble_eq_true rfl) dX6_count_200 (st' := [.int r34]) rfl rfl ?_
                          refine lm_goto C (tgt := 207) dX6_count_203 (by decide) ?_
                          cases hF
                          exact lm_iretR C hr hk rfl dX6_count_207
                      · have hF := lm_brf hF c31
                        rcases Classical.em (x1 = (11 : Int32)) with c35 | c35
                        · have hF := lm_brt hF c35
                          refine lm_tableIn C (11 : Int32) (off := 182) (tgt := 183) dX6_count_1 c35 (by decide) (by decide) (by decide) (by decide) ?_
                          refine lm_iload_n C dX6_count_183 rfl 1 rfl rfl ?_
                          refine lm_bipush C (v := (19 : Int32)) dX6_count_184 (by decide) rfl ?_
                          obtain ⟨r36, qr36, hF⟩ := lm_bde hF
                          refine lm_callSR C (n := 2) (m_X6_isWithin D z zo l   x1 (19 : Int32) r36 qr36) gX6_count_X6_isWithin rfl (by decide +kernel) ⟨Nat.le_of_ble_eq_true rfl, Nat.le_of_ble_eq_true rfl⟩ ⟨Nat.le_of_ble_eq_true rfl, Nat.le_of_ble_eq_true rfl⟩ (fun _ h => absurd h List.not_mem_nil) rfl rfl (Nat.le_of_ble_eq_true rfl) dX6_count_186 (st' := [.int r36]) rfl rfl ?_
                          refine lm_if_eq C (tgt := 206) dX6_count_189 (by decide) rfl (fun c37 => ?_) (fun c37 => ?_)
                          · have hF := lm_brt hF c37
                            refine lm_iconst C (v := (-1 : Int32)) dX6_count_206 (by decide) rfl ?_
                            cases hF
                            exact lm_iretR C hr hk rfl dX6_count_207
                          · have hF := lm_brf hF c37
                            refine lm_aload_n C dX6_count_192 rfl 0 rfl rfl ?_
                            refine lm_getf C (T := TX6) (N := 9) (v := .ref (a 0 0)) in6_X6_count 0 rfl rfl 0 (by decide) fl10_X6_count rfl rfl dX6_count_193 rfl ?_
                            refine lm_iload_n C dX6_count_196 rfl 1 rfl rfl ?_
                            refine lm_bipush C (v := (6 : Int32)) dX6_count_197 (by decide) rfl ?_
                            refine lm_isub C dX6_count_199 rfl rfl ?_
                            obtain ⟨r38, qr38, hF⟩ := lm_bde hF
                            refine lm_callVR C (n := 1) (ci := 4) (m_X4_tally D z zo l (a 0) (h 0) (x1 - (6 : Int32)) r38 qr38) gX6_count_X4_tally rfl (by decide +kernel) ⟨Nat.le_of_ble_eq_true rfl, Nat.le_of_ble_eq_true rfl⟩ ⟨Nat.le_of_ble_eq_true rfl, Nat.le_of_ble_eq_true rfl⟩ 5 rfl rfl (lm_s0 z zo m a h) rfl rfl (Nat.le_of_ble_eq_true rfl) dX6_count_200 (st' := [.int r38]) rfl rfl ?_
                            refine lm_goto C (tgt := 207) dX6_count_203 (by decide) ?_
                            cases hF
                            exact lm_iretR C hr hk rfl dX6_count_207
                        · have hF := lm_brf hF c35
                          rcases Classical.em (x1 = (12 : Int32)) with c39 | c39
                          · have hF := lm_brt hF c39
                            refine lm_tableIn C (12 : Int32) (off := 182) (tgt := 183) dX6_count_1 c39 (by decide) (by decide) (by decide) (by decide) ?_
                            refine lm_iload_n C dX6_count_183 rfl 1 rfl rfl ?_
                            refine lm_bipush C (v := (19 : Int32)) dX6_count_184 (by decide) rfl ?_
                            obtain ⟨r40, qr40, hF⟩ := lm_bde hF
                            refine lm_callSR C (n := 2) (m_X6_isWithin D z zo l   x1 (19 : Int32) r40 qr40) gX6_count_X6_isWithin rfl (by decide +kernel) ⟨Nat.le_of_ble_eq_true rfl, Nat.le_of_ble_eq_true rfl⟩ ⟨Nat.le_of_ble_eq_true rfl, Nat.le_of_ble_eq_true rfl⟩ (fun _ h => absurd h List.not_mem_nil) rfl rfl (Nat.le_of_ble_eq_true rfl) dX6_count_186 (st' := [.int r40]) rfl rfl ?_
                            refine lm_if_eq C (tgt := 206) dX6_count_189 (by decide) rfl (fun c41 => ?_) (fun c41 => ?_)
                            · have hF := lm_brt hF c41
                              refine lm_iconst C (v := (-1 : Int32)) dX6_count_206 (by decide) rfl ?_
                              cases hF
                              exact lm_iretR C hr hk rfl dX6_count_207
                            · have hF := lm_brf hF c41
                              refine lm_aload_n C dX6_count_192 rfl 0 rfl rfl ?_
                              refine lm_getf C (T := TX6) (N := 9) (v := .ref (a 0 0)) in6_X6_count 0 rfl rfl 0 (by decide) fl10_X6_count rfl rfl dX6_count_193 rfl ?_
                              refine lm_iload_n C dX6_count_196 rfl 1 rfl rfl ?_
                              refine lm_bipush C (v := (6 : Int32)) dX6_count_197 (by decide) rfl ?_
                              refine lm_isub C dX6_count_199 rfl rfl ?_
                              obtain ⟨r42, qr42, hF⟩ := lm_bde hF
                              refine lm_callVR C (n := 1) (ci := 4) (m_X4_tally D z zo l (a 0) (h 0) (x1 - (6 : Int32)) r42 qr42) gX6_count_X4_tally rfl (by decide +kernel) ⟨Nat.le_of_ble_eq_true rfl, Nat.le_of_ble_eq_true rfl⟩ ⟨Nat.le_of_ble_eq_true rfl, Nat.le_of_ble_eq_true rfl⟩ 5 rfl rfl (lm_s0 z zo m a h) rfl rfl (Nat.le_of_ble_eq_true rfl) dX6_count_200 (st' := [.int r42]) rfl rfl ?_
                              refine lm_goto C (tgt := 207) dX6_count_203 (by decide) ?_
                              cases hF
                              exact lm_iretR C hr hk rfl dX6_count_207
                          · have hF := lm_brf hF c39
                            rcases Classical.em (x1 = (13 : Int32)) with c43 | c43
                            · have hF := lm_brt hF c43
                              refine lm_tableIn C (13 : Int32) (off := 154) (tgt := 155) dX6_count_1 c43 (by decide) (by decide) (by decide) (by decide) ?_
                              refine lm_aload_n C dX6_count_155 rfl 0 rfl rfl ?_
                              refine lm_getf C (T := TX6) (N := 9) (v := .ref (a 0 0)) in6_X6_count 0 rfl rfl 0 (by decide) fl10_X6_count rfl rfl dX6_count_156 rfl ?_
                              refine lm_iload_n C dX6_count_159 rfl 1 rfl rfl ?_
                              refine lm_bipush C (v := (13 : Int32)) dX6_count_160 (by decide) rfl ?_
                              refine lm_isub C dX6_count_162 rfl rfl ?_
                              obtain ⟨r44, qr44, hF⟩ := lm_bde hF
                              refine lm_callVR C (n := 1) (ci := 4) (m_X4_setting D z zo l (a 0) (h 0) (x1 - (13 : Int32)) r44 qr44) gX6_count_X4_setting rfl (by decide +kernel) ⟨Nat.le_of_ble_eq_true rfl, Nat.le_of_ble_eq_true rfl⟩ ⟨Nat.le_of_ble_eq_true rfl, Nat.le_of_ble_eq_true rfl⟩ 5 rfl rfl (lm_s0 z zo m a h) rfl rfl (Nat.le_of_ble_eq_true rfl) dX6_count_163 (st' := [.int r44]) rfl rfl ?_
                              cases hF
                              exact lm_iretR C hr hk rfl dX6_count_166
                            · have hF := lm_brf hF c43
                              rcases Classical.em (x1 = (14 : Int32)) with c45 | c45
                              · have hF := lm_brt hF c45
                                refine lm_tableIn C (14 : Int32) (off := 154) (tgt := 155) dX6_count_1 c45 (by decide) (by decide) (by decide) (by decide) ?_
                                refine lm_aload_n C dX6_count_155 rfl 0 rfl rfl ?_
                                refine lm_getf C (T := TX6) (N := 9) (v := .ref (a 0 0)) in6_X6_count 0 rfl rfl 0 (by decide) fl10_X6_count rfl rfl dX6_count_156 rfl ?_
                                refine lm_iload_n C dX6_count_159 rfl 1 rfl rfl ?_
                                refine lm_bipush C (v := (13 : Int32)) dX6_count_160 (by decide) rfl ?_
                                refine lm_isub C dX6_count_162 rfl rfl ?_
                                obtain ⟨r46, qr46, hF⟩ := lm_bde hF
                                refine lm_callVR C (n := 1) (ci := 4) (m_X4_setting D z zo l (a 0) (h 0) (x1 - (13 : Int32)) r46 qr46) gX6_count_X4_setting rfl (by decide +kernel) ⟨Nat.le_of_ble_eq_true rfl, Nat.le_of_ble_eq_true rfl⟩ ⟨Nat.le_of_ble_eq_true rfl, Nat.le_of_ble_eq_true rfl⟩ 5 rfl rfl (lm_s0 z zo m a h) rfl rfl (Nat.le_of_ble_eq_true rfl) dX6_count_163 (st' := [.int r46]) rfl rfl ?_
                                cases hF
                                exact lm_iretR C hr hk rfl dX6_count_166
                              · have hF := lm_brf hF c45
                                rcases Classical.em (x1 = (15 : Int32)) with c47 | c47
                                · have hF := lm_brt hF c47
                                  refine lm_tableIn C (15 : Int32) (off := 154) (tgt := 155) dX6_count_1 c47 (by decide) (by decide) (by decide) (by decide) ?_
                                  refine lm_aload_n C dX6_count_155 rfl 0 rfl rfl ?_
                                  refine lm_getf C (T := TX6) (N := 9) (v := .ref (a 0 0)) in6_X6_count 0 rfl rfl 0 (by decide) fl10_X6_count rfl rfl dX6_count_156 rfl ?_
                                  refine lm_iload_n C dX6_count_159 rfl 1 rfl rfl ?_
                                  refine lm_bipush C (v := (13 : Int32)) dX6_count_160 (by decide) rfl ?_
                                  refine lm_isub C dX6_count_162 rfl rfl ?_
                                  obtain ⟨r48, qr48, hF⟩ := lm_bde hF
                                  refine lm_callVR C (n := 1) (ci := 4) (m_X4_setting D z zo l (a 0) (h 0) (x1 - (13 : Int32)) r48 qr48) gX6_count_X4_setting rfl (by decide +kernel) ⟨Nat.le_of_ble_eq_true rfl, Nat.le_of_ble_eq_true rfl⟩ ⟨Nat.le_of_ble_eq_true rfl, Nat.le_of_ble_eq_true rfl⟩ 5 rfl rfl (lm_s0 z zo m a h) rfl rfl (Nat.le_of_ble_eq_true rfl) dX6_count_163 (st' := [.int r48]) rfl rfl ?_
                                  cases hF
                                  exact lm_iretR C hr hk rfl dX6_count_166
                                · have hF := lm_brf hF c47
                                  rcases Classical.em (x1 = (16 : Int32)) with c49 | c49
                                  · have hF := lm_brt hF c49
                                    refine lm_tableIn C (16 : Int32) (off := 154) (tgt := 155) dX6_count_1 c49 (by decide) (by decide) (by decide) (by decide) ?_
                                    refine lm_aload_n C dX6_count_155 rfl 0 rfl rfl ?_
                                    refine lm_getf C (T := TX6) (N := 9) (v := .ref (a 0 0)) in6_X6_count 0 rfl rfl 0 (by decide) fl10_X6_count rfl rfl dX6_count_156 rfl ?_
                                    refine lm_iload_n C dX6_count_159 rfl 1 rfl rfl ?_
                                    refine lm_bipush C (v := (13 : Int32)) dX6_count_160 (by decide) rfl ?_
                                    refine lm_isub C dX6_count_162 rfl rfl ?_
                                    obtain ⟨r50, qr50, hF⟩ := lm_bde hF
                                    refine lm_callVR C (n := 1) (ci := 4) (m_X4_setting D z zo l (a 0) (h 0) (x1 - (13 : Int32)) r50 qr50) gX6_count_X4_setting rfl (by decide +kernel) ⟨Nat.le_of_ble_eq_true rfl, Nat.le_of_ble_eq_true rfl⟩ ⟨Nat.le_of_ble_eq_true rfl, Nat.le_of_ble_eq_true rfl⟩ 5 rfl rfl (lm_s0 z zo m a h) rfl rfl (Nat.le_of_ble_eq_true rfl) dX6_count_163 (st' := [.int r50]) rfl rfl ?_
                                    cases hF
                                    exact lm_iretR C hr hk rfl dX6_count_166
                                  · have hF := lm_brf hF c49
                                    rcases Classical.em (x1 = (17 : Int32)) with c51 | c51
                                    · have hF := lm_brt hF c51
                                      refine lm_tableIn C (17 : Int32) (off := 154) (tgt := 155) dX6_count_1 c51 (by decide) (by decide) (by decide) (by decide) ?_
                                      refine lm_aload_n C dX6_count_155 rfl 0 rfl rfl ?_
                                      refine lm_getf C (T := TX6) (N := 9) (v := .ref (a 0 0)) in6_X6_count 0 rfl rfl 0 (by decide) fl10_X6_count rfl rfl dX6_count_156 rfl ?_
                                      refine lm_iload_n C dX6_count_159 rfl 1 rfl rfl ?_
                                      refine lm_bipush C (v := (13 : Int32)) dX6_count_160 (by decide) rfl ?_
                                      refine lm_isub C dX6_count_162 rfl rfl ?_
                                      obtain ⟨r52, qr52, hF⟩ := lm_bde hF
                                      refine lm_callVR C (n := 1) (ci := 4) (m_X4_setting D z zo l (a 0) (h 0) (x1 - (13 : Int32)) r52 qr52) gX6_count_X4_setting rfl (by decide +kernel) ⟨Nat.le_of_ble_eq_true rfl, Nat.le_of_ble_eq_true rfl⟩ ⟨Nat.le_of_ble_eq_true rfl, Nat.le_of_ble_eq_true rfl⟩ 5 rfl rfl (lm_s0 z zo m a h) rfl rfl (Nat.le_of_ble_eq_true rfl) dX6_count_163 (st' := [.int r52]) rfl rfl ?_
                                      cases hF
                                      exact lm_iretR C hr hk rfl dX6_count_166
                                    · have hF := lm_brf hF c51
                                      rcases Classical.em (x1 = (18 : Int32)) with c53 | c53
                                      · have hF := lm_brt hF c53
                                        refine lm_tableIn C (18 : Int32) (off := 166) (tgt := 167) dX6_count_1 c53 (by decide) (by decide) (by decide) (by decide) ?_
                                        refine lm_aload_n C dX6_count_167 rfl 0 rfl rfl ?_
                                        refine lm_getf C (T := TX6) (N := 9) (v := .ref (m 1)) in6_X6_count 0 rfl rfl 4 (by decide) fl32_X6_count rfl rfl dX6_count_168 rfl ?_
                                        obtain ⟨r54, qr54, hF⟩ := lm_bde hF
                                        refine lm_callVR C (n := 0) (ci := 3) (m_X3_size D z zo l (lm_sh 1 m) (lm_sh 1 (h 8))  r54 qr54) gX6_count_X3_size rfl (by decide +kernel) ⟨Nat.le_of_ble_eq_true rfl, Nat.le_of_ble_eq_true rfl⟩ ⟨Nat.le_of_ble_eq_true rfl, Nat.le_of_ble_eq_true rfl⟩ 1 rfl rfl (lm_sP z zo m a h) rfl rfl (Nat.le_of_ble_eq_true rfl) dX6_count_171 (st' := [.int r54]) rfl rfl ?_
                                        cases hF
                                        exact lm_iretR C hr hk rfl dX6_count_174
                                      · have hF := lm_brf hF c53
                                        rcases Classical.em (x1 = (19 : Int32)) with c55 | c55
                                        · have hF := lm_brt hF c55
                                          refine lm_tableIn C (19 : Int32) (off := 174) (tgt := 175) dX6_count_1 c55 (by decide) (by decide) (by decide) (by decide) ?_
                                          refine lm_aload_n C dX6_count_175 rfl 0 rfl rfl ?_
                                          refine lm_getf C (T := TX6) (N := 9) (v := .ref (m 3)) in6_X6_count 0 rfl rfl 3 (by decide) fl25_X6_count rfl rfl dX6_count_176 rfl ?_
                                          obtain ⟨r56, qr56, hF⟩ := lm_bde hF
                                          refine lm_callVR C (n := 0) (ci := 1) (m_X1_size D z zo l m a h  r56 qr56) gX6_count_X1_size rfl (by decide +kernel) ⟨Nat.le_of_ble_eq_true rfl, Nat.le_of_ble_eq_true rfl⟩ ⟨Nat.le_of_ble_eq_true rfl, Nat.le_of_ble_eq_true rfl⟩ 3 rfl rfl (fun _ h => h) rfl rfl (Nat.le_of_ble_eq_true rfl) dX6_count_179 (st' := [.int r56]) rfl rfl ?_
                                          cases hF
                                          exact lm_iretR C hr hk rfl dX6_count_182
                                        · have hF := lm_brf hF c55
                                          refine lm_tableOut C (tgt := 183) dX6_count_1 (by have nc1 := lv_neT c1 (a := 0) (by decide); have nc4 := lv_neT c4 (a := 1) (by decide); have nc7 := lv_neT c7 (a := 2) (by decide); have nc9 := lv_neT c9 (a := 3) (by decide); have nc11 := lv_neT c11 (a := 4) (by decide); have nc13 := lv_neT c13 (a := 5) (by decide); have nc15 := lv_neT c15 (a := 6) (by decide); have nc19 := lv_neT c19 (a := 7) (by decide); have nc23 := lv_neT c23 (a := 8) (by decide); have nc27 := lv_neT c27 (a := 9) (by decide); have nc31 := lv_neT c31 (a := 10) (by decide); have nc35 := lv_neT c35 (a := 11) (by decide); have nc39 := lv_neT c39 (a := 12) (by decide); have nc43 := lv_neT c43 (a := 13) (by decide); have nc45 := lv_neT c45 (a := 14) (by decide); have nc47 := lv_neT c47 (a := 15) (by decide); have nc49 := lv_neT c49 (a := 16) (by decide); have nc51 := lv_neT c51 (a := 17) (by decide); have nc53 := lv_neT c53 (a := 18) (by decide); have nc55 := lv_neT c55 (a := 19) (by decide); omega) (by decide) ?_
                                          refine lm_iload_n C dX6_count_183 rfl 1 rfl rfl ?_
                                          refine lm_bipush C (v := (19 : Int32)) dX6_count_184 (by decide) rfl ?_
                                          obtain ⟨r57, qr57, hF⟩ := lm_bde hF
                                          refine lm_callSR C (n := 2) (m_X6_isWithin D z zo l   x1 (19 : Int32) r57 qr57) gX6_count_X6_isWithin rfl (by decide +kernel) ⟨Nat.le_of_ble_eq_true rfl, Nat.le_of_ble_eq_true rfl⟩ ⟨Nat.le_of_ble_eq_true rfl, Nat.le_of_ble_eq_true rfl⟩ (fun _ h => absurd h List.not_mem_nil) rfl rfl (Nat.le_of_ble_eq_true rfl) dX6_count_186 (st' := [.int r57]) rfl rfl ?_
                                          refine lm_if_eq C (tgt := 206) dX6_count_189 (by decide) rfl (fun c58 => ?_) (fun c58 => ?_)
                                          · have hF := lm_brt hF c58
                                            refine lm_iconst C (v := (-1 : Int32)) dX6_count_206 (by decide) rfl ?_
                                            cases hF
                                            exact lm_iretR C hr hk rfl dX6_count_207
                                          · have hF := lm_brf hF c58
                                            refine lm_aload_n C dX6_count_192 rfl 0 rfl rfl ?_
                                            refine lm_getf C (T := TX6) (N := 9) (v := .ref (a 0 0)) in6_X6_count 0 rfl rfl 0 (by decide) fl10_X6_count rfl rfl dX6_count_193 rfl ?_
                                            refine lm_iload_n C dX6_count_196 rfl 1 rfl rfl ?_
                                            refine lm_bipush C (v := (6 : Int32)) dX6_count_197 (by decide) rfl ?_
                                            refine lm_isub C dX6_count_199 rfl rfl ?_
                                            obtain ⟨r59, qr59, hF⟩ := lm_bde hF
                                            refine lm_callVR C (n := 1) (ci := 4) (m_X4_tally D z zo l (a 0) (h 0) (x1 - (6 : Int32)) r59 qr59) gX6_count_X4_tally rfl (by decide +kernel) ⟨Nat.le_of_ble_eq_true rfl, Nat.le_of_ble_eq_true rfl⟩ ⟨Nat.le_of_ble_eq_true rfl, Nat.le_of_ble_eq_true rfl⟩ 5 rfl rfl (lm_s0 z zo m a h) rfl rfl (Nat.le_of_ble_eq_true rfl) dX6_count_200 (st' := [.int r59]) rfl rfl ?_
                                            refine lm_goto C (tgt := 207) dX6_count_203 (by decide) ?_
                                            cases hF
                                            exact lm_iretR C hr hk rfl dX6_count_207
def F_X6_total (h : Nat → Hp) (x1 : Int32) : Option Int32 :=
  lm_bd (F_X6_isWithin x1 (1 : Int32)) fun r1 =>
  lm_br (¬ r1 = 0)
   (lm_br (¬ x1 = 0)
    (lm_bd (F_X4_totalByRows (h 0)) fun r4 =>
    some r4)
    (lm_bd (F_X4_totalByAnswers (h 0)) fun r5 =>
    some r5))
   (some (-1 : Int32))
theorem in6_X6_total : ∀ w ∈ u_ws RX6 TX6 9, w ∈ wsX6_total := by decide +kernel
theorem fl10_X6_total : Cond.fieldLink RX6 10 "LoopMemo" "now" "LLoopMemo$State;" ∈ wsX6_total := by decide +kernel
set_option maxRecDepth 100000 in
set_option maxHeartbeats 4000000 in
theorem m_X6_total (D : va_G) (z zo : ClassId) (l : Launch) (m : Nat → Nat) (a : Nat → Nat → Nat) (h : Nat → Hp) (x1 : Int32) (r : Int32)  (hF : F_X6_total h x1 = some r) : lm_CR D z zo l yX6_total wsX6_total 2 44 [.ref (m 0), .int x1] (lmW z zo m a h) (some (.int r)) := by
  refine lm_CR.of (by decide) rfl (Nat.le_of_ble_eq_true rfl) (own := RX6) rfl ?_
  intro p e s m_ args below meth c C hr hk
  show lm_St p l e ({ frames := 2, cells := 0, slots := 0, locals := 44 }) s m_ args below meth c D (fun _ => False) 2 0 0 (lm_EndR below (some (.int r)) args s) true (lmW z zo m a h) 0 [(0, .ref (m 0)), (1, .int x1)] []
  rw [F_X6_total] at hF
  refine lm_iload_n C dX6_total_0 rfl 1 rfl rfl ?_
  refine lm_iconst C (v := (1 : Int32)) dX6_total_1 (by decide) rfl ?_
  obtain ⟨r1, qr1, hF⟩ := lm_bde hF
  refine lm_callSR C (n := 2) (m_X6_isWithin D z zo l   x1 (1 : Int32) r1 qr1) gX6_total_X6_isWithin rfl (by decide +kernel) ⟨Nat.le_of_ble_eq_true rfl, Nat.le_of_ble_eq_true rfl⟩ ⟨Nat.le_of_ble_eq_true rfl, Nat.le_of_ble_eq_true rfl⟩ (fun _ h => absurd h List.not_mem_nil) rfl rfl (Nat.le_of_ble_eq_true rfl) dX6_total_2 (st' := [.int r1]) rfl rfl ?_
  refine lm_if_ne C (tgt := 10) dX6_total_5 (by decide) rfl (fun c2 => ?_) (fun c2 => ?_)
  · have hF := lm_brt hF c2
    refine lm_iload_n C dX6_total_10 rfl 1 rfl rfl ?_
    refine lm_if_ne C (tgt := 24) dX6_total_11 (by decide) rfl (fun c3 => ?_) (fun c3 => ?_)
    · have hF := lm_brt hF c3
      refine lm_aload_n C dX6_total_24 rfl 0 rfl rfl ?_
      refine lm_getf C (T := TX6) (N := 9) (v := .ref (a 0 0)) in6_X6_total 0 rfl rfl 0 (by decide) fl10_X6_total rfl rfl dX6_total_25 rfl ?_
      obtain ⟨r4, qr4, hF⟩ := lm_bde hF
      refine lm_callVR C (n := 0) (ci := 4) (m_X4_totalByRows D z zo l (a 0) (h 0)  r4 qr4) gX6_total_X4_totalByRows rfl (by decide +kernel) ⟨Nat.le_of_ble_eq_true rfl, Nat.le_of_ble_eq_true rfl⟩ ⟨Nat.le_of_ble_eq_true rfl, Nat.le_of_ble_eq_true rfl⟩ 5 rfl rfl (lm_s0 z zo m a h) rfl rfl (Nat.le_of_ble_eq_true rfl) dX6_total_28 (st' := [.int r4]) rfl rfl ?_
      cases hF
      exact lm_iretR C hr hk rfl dX6_total_31
    · have hF := lm_brf hF c3
      refine lm_aload_n C dX6_total_14 rfl 0 rfl rfl ?_
      refine lm_getf C (T := TX6) (N := 9) (v := .ref (a 0 0)) in6_X6_total 0 rfl rfl 0 (by decide) fl10_X6_total rfl rfl dX6_total_15 rfl ?_
      obtain ⟨r5, qr5, hF⟩ := lm_bde hF
      refine lm_callVR C (n := 0) (ci := 4) (m_X4_totalByAnswers D z zo l (a 0) (h 0)  r5 qr5) gX6_total_X4_totalByAnswers rfl (by decide +kernel) ⟨Nat.le_of_ble_eq_true rfl, Nat.le_of_ble_eq_true rfl⟩ ⟨Nat.le_of_ble_eq_true rfl, Nat.le_of_ble_eq_true rfl⟩ 5 rfl rfl (lm_s0 z zo m a h) rfl rfl (Nat.le_of_ble_eq_true rfl) dX6_total_18 (st' := [.int r5]) rfl rfl ?_
      refine lm_goto C (tgt := 31) dX6_total_21 (by decide) ?_
      cases hF
      exact lm_iretR C hr hk rfl dX6_total_31
  · have hF := lm_brf hF c2
    refine lm_iconst C (v := (-1 : Int32)) dX6_total_8 (by decide) rfl ?_
    cases hF
    exact lm_iretR C hr hk rfl dX6_total_9
def F_X6_tryBound (h : Nat → Hp) (x1 : Int32) : Option (Nat → Hp) :=
  lm_bd (F_X4_copyFrom (h 1) (h 0)) fun τ1 =>
  lm_lt (lm_uB h 1 τ1) fun h2 =>
  lm_b2 (F_X4_adjust (h2 1) (0 : Int32) x1) fun r5 τ3 =>
  lm_lt (lm_uB h2 1 τ3) fun h4 =>
  lm_b2 (F_X4_walk (h4 1) (20 : Int32)) fun r8 τ6 =>
  lm_lt (lm_uB h4 1 τ6) fun h7 =>
  some h7
theorem in6_X6_tryBound : ∀ w ∈ u_ws RX6 TX6 9, w ∈ wsX6_tryBound := by decide +kernel
theorem fl16_X6_tryBound : Cond.fieldLink RX6 16 "LoopMemo" "trial" "LLoopMemo$State;" ∈ wsX6_tryBound := by decide +kernel
theorem fl10_X6_tryBound : Cond.fieldLink RX6 10 "LoopMemo" "now" "LLoopMemo$State;" ∈ wsX6_tryBound := by decide +kernel
set_option maxRecDepth 100000 in
set_option maxHeartbeats 4000000 in
theorem m_X6_tryBound (D : va_G) (z zo : ClassId) (l : Launch) (m : Nat → Nat) (a : Nat → Nat → Nat) (h : Nat → Hp) (x1 : Int32)  (h' : Nat → Hp) (hF : F_X6_tryBound h x1 = some h') : lm_C D z zo l yX6_tryBound wsX6_tryBound 5 115 [.ref (m 0), .int x1] (lmW z zo m a h) none (lmW z zo m a h') := by
  refine lm_C.of (by decide) rfl (Nat.le_of_ble_eq_true rfl) (own := RX6) rfl ?_
  intro p e s m_ args below meth c C hr hk hA
  show lm_St p l e ({ frames := 5, cells := 0, slots := 0, locals := 115 }) s m_ args below meth c D (va_A (lmW z zo m a h) s.heap.size) 2 0 0 (lm_End below D none (lmW z zo m a h) (lmW z zo m a h') args s) false (lmW z zo m a h) 0 [(0, .ref (m 0)), (1, .int x1)] []
  rw [F_X6_tryBound] at hF
  refine lm_aload_n C dX6_tryBound_0 rfl 0 rfl rfl ?_
  refine lm_getf C (T := TX6) (N := 9) (v := .ref (a 1 0)) in6_X6_tryBound 0 rfl rfl 1 (by decide) fl16_X6_tryBound rfl rfl dX6_tryBound_1 rfl ?_
  refine lm_aload_n C dX6_tryBound_4 rfl 0 rfl rfl ?_
  refine lm_getf C (T := TX6) (N := 9) (v := .ref (a 0 0)) in6_X6_tryBound 0 rfl rfl 0 (by decide) fl10_X6_tryBound rfl rfl dX6_tryBound_5 rfl ?_
  obtain ⟨τ1, qτ1, hF⟩ := lm_bde hF
  obtain ⟨h2, eh2, hF⟩ := lm_lte hF
  refine lm_callV C (n := 1) (ci := 4) (w' := (lmW z zo m a h2)) hA (m_X4_copyFrom D z zo l (a 1) (a 0) (h 1) (h 0) τ1 qτ1) gX6_tryBound_X4_copyFrom rfl (by decide +kernel) ⟨Nat.le_of_ble_eq_true rfl, Nat.le_of_ble_eq_true rfl⟩ ⟨Nat.le_of_ble_eq_true rfl, Nat.le_of_ble_eq_true rfl⟩ 22 rfl rfl (lm_g1_0 z zo m a h) (by rw [← eh2]; exact lm_p1_0 z zo m a h τ1) rfl rfl (Nat.le_of_ble_eq_true rfl) dX6_tryBound_8 (st' := []) rfl rfl ?_
  refine lm_aload_n C dX6_tryBound_11 rfl 0 rfl rfl ?_
  refine lm_getf C (T := TX6) (N := 9) (v := .ref (a 1 0)) in6_X6_tryBound 0 rfl rfl 1 (by decide) fl16_X6_tryBound rfl rfl dX6_tryBound_12 rfl ?_
  refine lm_iconst C (v := (0 : Int32)) dX6_tryBound_15 (by decide) rfl ?_
  refine lm_iload_n C dX6_tryBound_16 rfl 1 rfl rfl ?_
  obtain ⟨r5, τ3, qτ3, hF⟩ := lm_b2e hF
  obtain ⟨h4, eh4, hF⟩ := lm_lte hF
  refine lm_callV C (n := 2) (ci := 4) (w' := (lmW z zo m a h4)) hA (m_X4_adjust D z zo l (a 1) (h2 1) (0 : Int32) x1 r5 τ3 qτ3) gX6_tryBound_X4_adjust rfl (by decide +kernel) ⟨Nat.le_of_ble_eq_true rfl, Nat.le_of_ble_eq_true rfl⟩ ⟨Nat.le_of_ble_eq_true rfl, Nat.le_of_ble_eq_true rfl⟩ 22 rfl rfl (lm_g1 z zo m a h2) (by rw [← eh4]; exact lm_p1 z zo m a h2 τ3) rfl rfl (Nat.le_of_ble_eq_true rfl) dX6_tryBound_17 (st' := [.int r5]) rfl rfl ?_
  refine lm_pop C dX6_tryBound_20 rfl rfl ?_
  refine lm_aload_n C dX6_tryBound_21 rfl 0 rfl rfl ?_
  refine lm_getf C (T := TX6) (N := 9) (v := .ref (a 1 0)) in6_X6_tryBound 0 rfl rfl 1 (by decide) fl16_X6_tryBound rfl rfl dX6_tryBound_22 rfl ?_
  refine lm_bipush C (v := (20 : Int32)) dX6_tryBound_25 (by decide) rfl ?_
  obtain ⟨r8, τ6, qτ6, hF⟩ := lm_b2e hF
  obtain ⟨h7, eh7, hF⟩ := lm_lte hF
  refine lm_callV C (n := 1) (ci := 4) (w' := (lmW z zo m a h7)) hA (m_X4_walk D z zo l (a 1) (h4 1) (20 : Int32) r8 τ6 qτ6) gX6_tryBound_X4_walk rfl (by decide +kernel) ⟨Nat.le_of_ble_eq_true rfl, Nat.le_of_ble_eq_true rfl⟩ ⟨Nat.le_of_ble_eq_true rfl, Nat.le_of_ble_eq_true rfl⟩ 22 rfl rfl (lm_g1 z zo m a h4) (by rw [← eh7]; exact lm_p1 z zo m a h4 τ6) rfl rfl (Nat.le_of_ble_eq_true rfl) dX6_tryBound_27 (st' := [.int r8]) rfl rfl ?_
  refine lm_pop C dX6_tryBound_30 rfl rfl ?_
  cases hF
  exact lm_vret C hr hk rfl rfl dX6_tryBound_31
def F_X6_brought (h : Nat → Hp) (x1 : Int32) : Option Int32 :=
  lm_bd (F_X4_tally (h 1) x1) fun r1 =>
  lm_bd (F_X4_tally (h 0) x1) fun r2 =>
  some (r1 - r2)
theorem in6_X6_brought : ∀ w ∈ u_ws RX6 TX6 9, w ∈ wsX6_brought := by decide +kernel
theorem fl16_X6_brought : Cond.fieldLink RX6 16 "LoopMemo" "trial" "LLoopMemo$State;" ∈ wsX6_brought := by decide +kernel
theorem fl10_X6_brought : Cond.fieldLink RX6 10 "LoopMemo" "now" "LLoopMemo$State;" ∈ wsX6_brought := by decide +kernel
set_option maxRecDepth 100000 in
set_option maxHeartbeats 4000000 in
theorem m_X6_brought (D : va_G) (z zo : ClassId) (l : Launch) (m : Nat → Nat) (a : Nat → Nat → Nat) (h : Nat → Hp) (x1 : Int32) (r : Int32)  (hF : F_X6_brought h x1 = some r) : lm_CR D z zo l yX6_brought wsX6_brought 1 21 [.ref (m 0), .int x1] (lmW z zo m a h) (some (.int r)) := by
  refine lm_CR.of (by decide) rfl (Nat.le_of_ble_eq_true rfl) (own := RX6) rfl ?_
  intro p e s m_ args below meth c C hr hk
  show lm_St p l e ({ frames := 1, cells := 0, slots := 0, locals := 21 }) s m_ args below meth c D (fun _ => False) 2 0 0 (lm_EndR below (some (.int r)) args s) true (lmW z zo m a h) 0 [(0, .ref (m 0)), (1, .int x1)] []
  rw [F_X6_brought] at hF
  refine lm_aload_n C dX6_brought_0 rfl 0 rfl rfl ?_
  refine lm_getf C (T := TX6) (N := 9) (v := .ref (a 1 0)) in6_X6_brought 0 rfl rfl 1 (by decide) fl16_X6_brought rfl rfl dX6_brought_1 rfl ?_
  refine lm_iload_n C dX6_brought_4 rfl 1 rfl rfl ?_
  obtain ⟨r1, qr1, hF⟩ := lm_bde hF
  refine lm_callVR C (n := 1) (ci := 4) (m_X4_tally D z zo l (a 1) (h 1) x1 r1 qr1) gX6_brought_X4_tally rfl (by decide +kernel) ⟨Nat.le_of_ble_eq_true rfl, Nat.le_of_ble_eq_true rfl⟩ ⟨Nat.le_of_ble_eq_true rfl, Nat.le_of_ble_eq_true rfl⟩ 22 rfl rfl (lm_s1 z zo m a h) rfl rfl (Nat.le_of_ble_eq_true rfl) dX6_brought_5 (st' := [.int r1]) rfl rfl ?_
  refine lm_aload_n C dX6_brought_8 rfl 0 rfl rfl ?_
  refine lm_getf C (T := TX6) (N := 9) (v := .ref (a 0 0)) in6_X6_brought 0 rfl rfl 0 (by decide) fl10_X6_brought rfl rfl dX6_brought_9 rfl ?_
  refine lm_iload_n C dX6_brought_12 rfl 1 rfl rfl ?_
  obtain ⟨r2, qr2, hF⟩ := lm_bde hF
  refine lm_callVR C (n := 1) (ci := 4) (m_X4_tally D z zo l (a 0) (h 0) x1 r2 qr2) gX6_brought_X4_tally rfl (by decide +kernel) ⟨Nat.le_of_ble_eq_true rfl, Nat.le_of_ble_eq_true rfl⟩ ⟨Nat.le_of_ble_eq_true rfl, Nat.le_of_ble_eq_true rfl⟩ 5 rfl rfl (lm_s0 z zo m a h) rfl rfl (Nat.le_of_ble_eq_true rfl) dX6_brought_13 (st' := [.int r2, .int r1]) rfl rfl ?_
  refine lm_isub C dX6_brought_16 rfl rfl ?_
  cases hF
  exact lm_iretR C hr hk rfl dX6_brought_17
def F_X6_ifBound (h : Nat → Hp) (x1 x2 : Int32) : Option (Int32 × (Nat → Hp)) :=
  lm_bd (F_X6_isWithin x1 (60 : Int32)) fun r1 =>
  lm_br (r1 = 0)
   (some ((-1 : Int32), h))
   (lm_bd (F_X6_isWithin x2 (3 : Int32)) fun r3 =>
   lm_br (¬ r3 = 0)
    (lm_bd (F_X6_tryBound h x1) fun h5 =>
    lm_br (x2 = (0 : Int32))
     (lm_bd (F_X6_brought h5 (2 : Int32)) fun r7 =>
     some (r7, h5))
     (lm_br (x2 = (1 : Int32))
      (lm_bd (F_X6_brought h5 (0 : Int32)) fun r9 =>
      some (r9, h5))
      (lm_br (x2 = (2 : Int32))
       (lm_bd (F_X6_brought h5 (1 : Int32)) fun r11 =>
       some (r11, h5))
       (lm_bd (F_X6_brought h5 (3 : Int32)) fun r12 =>
       some (r12, h5)))))
    (some ((-1 : Int32), h)))
set_option maxRecDepth 100000 in
set_option maxHeartbeats 4000000 in
theorem m_X6_ifBound (D : va_G) (z zo : ClassId) (l : Launch) (m : Nat → Nat) (a : Nat → Nat → Nat) (h : Nat → Hp) (x1 x2 : Int32) (r : Int32) (h' : Nat → Hp) (hF : F_X6_ifBound h x1 x2 = some (r, h')) : lm_C D z zo l yX6_ifBound wsX6_ifBound 6 136 [.ref (m 0), .int x1, .int x2] (lmW z zo m a h) (some (.int r)) (lmW z zo m a h') := by
  refine lm_C.of (by decide) rfl (Nat.le_of_ble_eq_true rfl) (own := RX6) rfl ?_
  intro p e s m_ args below meth c C hr hk hA
  show lm_St p l e ({ frames := 6, cells := 0, slots := 0, locals := 136 }) s m_ args below meth c D (va_A (lmW z zo m a h) s.heap.size) 3 0 0 (lm_End below D (some (.int r)) (lmW z zo m a h) (lmW z zo m a h') args s) false (lmW z zo m a h) 0 [(0, .ref (m 0)), (1, .int x1), (2, .int x2)] []
  rw [F_X6_ifBound] at hF
  refine lm_iload_n C dX6_ifBound_0 rfl 1 rfl rfl ?_
  refine lm_bipush C (v := (60 : Int32)) dX6_ifBound_1 (by decide) rfl ?_
  obtain ⟨r1, qr1, hF⟩ := lm_bde hF
  refine lm_callSR C (n := 2) (m_X6_isWithin D z zo l   x1 (60 : Int32) r1 qr1) gX6_ifBound_X6_isWithin rfl (by decide +kernel) ⟨Nat.le_of_ble_eq_true rfl, Nat.le_of_ble_eq_true rfl⟩ ⟨Nat.le_of_ble_eq_true rfl, Nat.le_of_ble_eq_true rfl⟩ (fun _ h => absurd h List.not_mem_nil) rfl rfl (Nat.le_of_ble_eq_true rfl) dX6_ifBound_3 (st' := [.int r1]) rfl rfl ?_
  refine lm_if_eq C (tgt := 17) dX6_ifBound_6 (by decide) rfl (fun c2 => ?_) (fun c2 => ?_)
  · have hF := lm_brt hF c2
    refine lm_iconst C (v := (-1 : Int32)) dX6_ifBound_17 (by decide) rfl ?_
    cases hF
    exact lm_iret C hr hk rfl rfl dX6_ifBound_18
  · have hF := lm_brf hF c2
    refine lm_iload_n C dX6_ifBound_9 rfl 2 rfl rfl ?_
    refine lm_iconst C (v := (3 : Int32)) dX6_ifBound_10 (by decide) rfl ?_
    obtain ⟨r3, qr3, hF⟩ := lm_bde hF
    refine lm_callSR C (n := 2) (m_X6_isWithin D z zo l   x2 (3 : Int32) r3 qr3) gX6_ifBound_X6_isWithin rfl (by decide +kernel) ⟨Nat.le_of_ble_eq_true rfl, Nat.le_of_ble_eq_true rfl⟩ ⟨Nat.le_of_ble_eq_true rfl, Nat.le_of_ble_eq_true rfl⟩ (fun _ h => absurd h List.not_mem_nil) rfl rfl (Nat.le_of_ble_eq_true rfl) dX6_ifBound_11 (st' := [.int r3]) rfl rfl ?_
    refine lm_if_ne C (tgt := 19) dX6_ifBound_14 (by decide) rfl (fun c4 => ?_) (fun c4 => ?_)
    · have hF := lm_brt hF c4
      refine lm_aload_n C dX6_ifBound_19 rfl 0 rfl rfl ?_
      refine lm_iload_n C dX6_ifBound_20 rfl 1 rfl rfl ?_
      obtain ⟨h5, qh5, hF⟩ := lm_bde hF
      refine lm_callV C (n := 1) (ci := 6) (w' := (lmW z zo m a h5)) hA (m_X6_tryBound D z zo l m a h x1 h5 qh5) gX6_ifBound_X6_tryBound rfl (by decide +kernel) ⟨Nat.le_of_ble_eq_true rfl, Nat.le_of_ble_eq_true rfl⟩ ⟨Nat.le_of_ble_eq_true rfl, Nat.le_of_ble_eq_true rfl⟩ 0 rfl rfl lm_pr lm_pr' rfl rfl (Nat.le_of_ble_eq_true rfl) dX6_ifBound_21 (st' := []) rfl rfl ?_
      refine lm_iload_n C dX6_ifBound_24 rfl 2 rfl rfl ?_
      rcases Classical.em (x2 = (0 : Int32)) with c6 | c6
      · have hF := lm_brt hF c6
        refine lm_tableIn C (0 : Int32) (off := 27) (tgt := 52) dX6_ifBound_25 c6 (by decide) (by decide) (by decide) (by decide) ?_
        refine lm_aload_n C dX6_ifBound_52 rfl 0 rfl rfl ?_
        refine lm_iconst C (v := (2 : Int32)) dX6_ifBound_53 (by decide) rfl ?_
        obtain ⟨r7, qr7, hF⟩ := lm_bde hF
        refine lm_callVR C (n := 1) (ci := 6) (m_X6_brought D z zo l m a h5 (2 : Int32) r7 qr7) gX6_ifBound_X6_brought rfl (by decide +kernel) ⟨Nat.le_of_ble_eq_true rfl, Nat.le_of_ble_eq_true rfl⟩ ⟨Nat.le_of_ble_eq_true rfl, Nat.le_of_ble_eq_true rfl⟩ 0 rfl rfl (fun _ h => h) rfl rfl (Nat.le_of_ble_eq_true rfl) dX6_ifBound_54 (st' := [.int r7]) rfl rfl ?_
        cases hF
        exact lm_iret C hr hk rfl rfl dX6_ifBound_57
      · have hF := lm_brf hF c6
        rcases Classical.em (x2 = (1 : Int32)) with c8 | c8
        · have hF := lm_brt hF c8
          refine lm_tableIn C (1 : Int32) (off := 33) (tgt := 58) dX6_ifBound_25 c8 (by decide) (by decide) (by decide) (by decide) ?_
          refine lm_aload_n C dX6_ifBound_58 rfl 0 rfl rfl ?_
          refine lm_iconst C (v := (0 : Int32)) dX6_ifBound_59 (by decide) rfl ?_
          obtain ⟨r9, qr9, hF⟩ := lm_bde hF
          refine lm_callVR C (n := 1) (ci := 6) (m_X6_brought D z zo l m a h5 (0 : Int32) r9 qr9) gX6_ifBound_X6_brought rfl (by decide +kernel) ⟨Nat.le_of_ble_eq_true rfl, Nat.le_of_ble_eq_true rfl⟩ ⟨Nat.le_of_ble_eq_true rfl, Nat.le_of_ble_eq_true rfl⟩ 0 rfl rfl (fun _ h => h) rfl rfl (Nat.le_of_ble_eq_true rfl) dX6_ifBound_60 (st' := [.int r9]) rfl rfl ?_
          cases hF
          exact lm_iret C hr hk rfl rfl dX6_ifBound_63
        · have hF := lm_brf hF c8
          rcases Classical.em (x2 = (2 : Int32)) with c10 | c10
          · have hF := lm_brt hF c10
            refine lm_tableIn C (2 : Int32) (off := 39) (tgt := 64) dX6_ifBound_25 c10 (by decide) (by decide) (by decide) (by decide) ?_
            refine lm_aload_n C dX6_ifBound_64 rfl 0 rfl rfl ?_
            refine lm_iconst C (v := (1 : Int32)) dX6_ifBound_65 (by decide) rfl ?_
            obtain ⟨r11, qr11, hF⟩ := lm_bde hF
            refine lm_callVR C (n := 1) (ci := 6) (m_X6_brought D z zo l m a h5 (1 : Int32) r11 qr11) gX6_ifBound_X6_brought rfl (by decide +kernel) ⟨Nat.le_of_ble_eq_true rfl, Nat.le_of_ble_eq_true rfl⟩ ⟨Nat.le_of_ble_eq_true rfl, Nat.le_of_ble_eq_true rfl⟩ 0 rfl rfl (fun _ h => h) rfl rfl (Nat.le_of_ble_eq_true rfl) dX6_ifBound_66 (st' := [.int r11]) rfl rfl ?_
            cases hF
            exact lm_iret C hr hk rfl rfl dX6_ifBound_69
          · have hF := lm_brf hF c10
            refine lm_tableOut C (tgt := 70) dX6_ifBound_25 (by have nc6 := lv_neT c6 (a := 0) (by decide); have nc8 := lv_neT c8 (a := 1) (by decide); have nc10 := lv_neT c10 (a := 2) (by decide); omega) (by decide) ?_
            refine lm_aload_n C dX6_ifBound_70 rfl 0 rfl rfl ?_
            refine lm_iconst C (v := (3 : Int32)) dX6_ifBound_71 (by decide) rfl ?_
            obtain ⟨r12, qr12, hF⟩ := lm_bde hF
            refine lm_callVR C (n := 1) (ci := 6) (m_X6_brought D z zo l m a h5 (3 : Int32) r12 qr12) gX6_ifBound_X6_brought rfl (by decide +kernel) ⟨Nat.le_of_ble_eq_true rfl, Nat.le_of_ble_eq_true rfl⟩ ⟨Nat.le_of_ble_eq_true rfl, Nat.le_of_ble_eq_true rfl⟩ 0 rfl rfl (fun _ h => h) rfl rfl (Nat.le_of_ble_eq_true rfl) dX6_ifBound_72 (st' := [.int r12]) rfl rfl ?_
            cases hF
            exact lm_iret C hr hk rfl rfl dX6_ifBound_75
    · have hF := lm_brf hF c4
      refine lm_iconst C (v := (-1 : Int32)) dX6_ifBound_17 (by decide) rfl ?_
      cases hF
      exact lm_iret C hr hk rfl rfl dX6_ifBound_18
def F_X6_ifOrdered (h : Nat → Hp) (x1 : Int32) : Option (Int32 × (Nat → Hp)) :=
  lm_bd (F_X6_isWithin x1 (2 : Int32)) fun r1 =>
  lm_br (¬ r1 = 0)
   (lm_bd (F_X4_copyFrom (h 1) (h 0)) fun τ3 =>
   lm_lt (lm_uB h 1 τ3) fun h4 =>
   lm_br (¬ x1 = (1 : Int32))
    (lm_br (¬ x1 = (2 : Int32))
     (lm_b2 (F_X4_walk (h4 1) (20 : Int32)) fun r9 τ7 =>
     lm_lt (lm_uB h4 1 τ7) fun h8 =>
     lm_bd (F_X6_brought h8 (2 : Int32)) fun r10 =>
     some (r10, h8))
     (lm_bd (F_X4_place (h4 1)) fun r12 =>
     lm_bd (F_X5_reverseFrom (lm_sh 1 (h4 1)) r12) fun τ13 =>
     lm_lt (lm_uB h4 1 (lm_sb (h4 1) 1 3 τ13)) fun h14 =>
     lm_b2 (F_X4_walk (h14 1) (20 : Int32)) fun r17 τ15 =>
     lm_lt (lm_uB h14 1 τ15) fun h16 =>
     lm_bd (F_X6_brought h16 (2 : Int32)) fun r18 =>
     some (r18, h16)))
    (lm_bd (F_X4_place (h4 1)) fun r20 =>
    lm_bd (F_X5_sortFrom (lm_sh 1 (h4 1)) r20) fun τ21 =>
    lm_lt (lm_uB h4 1 (lm_sb (h4 1) 1 3 τ21)) fun h22 =>
    lm_b2 (F_X4_walk (h22 1) (20 : Int32)) fun r25 τ23 =>
    lm_lt (lm_uB h22 1 τ23) fun h24 =>
    lm_bd (F_X6_brought h24 (2 : Int32)) fun r26 =>
    some (r26, h24)))
   (some ((-1 : Int32), h))
theorem in6_X6_ifOrdered : ∀ w ∈ u_ws RX6 TX6 9, w ∈ wsX6_ifOrdered := by decide +kernel
theorem fl16_X6_ifOrdered : Cond.fieldLink RX6 16 "LoopMemo" "trial" "LLoopMemo$State;" ∈ wsX6_ifOrdered := by decide +kernel
theorem fl10_X6_ifOrdered : Cond.fieldLink RX6 10 "LoopMemo" "now" "LLoopMemo$State;" ∈ wsX6_ifOrdered := by decide +kernel
set_option maxRecDepth 100000 in
set_option maxHeartbeats 4000000 in
theorem m_X6_ifOrdered (D : va_G) (z zo : ClassId) (l : Launch) (m : Nat → Nat) (a : Nat → Nat → Nat) (h : Nat → Hp) (x1 : Int32) (r : Int32) (h' : Nat → Hp) (hF : F_X6_ifOrdered h x1 = some (r, h')) : lm_C D z zo l yX6_ifOrdered wsX6_ifOrdered 5 115 [.ref (m 0), .int x1] (lmW z zo m a h) (some (.int r)) (lmW z zo m a h') := by
  refine lm_C.of (by decide) rfl (Nat.le_of_ble_eq_true rfl) (own := RX6) rfl ?_
  intro p e s m_ args below meth c C hr hk hA
  show lm_St p l e ({ frames := 5, cells := 0, slots := 0, locals := 115 }) s m_ args below meth c D (va_A (lmW z zo m a h) s.heap.size) 2 0 0 (lm_End below D (some (.int r)) (lmW z zo m a h) (lmW z zo m a h') args s) false (lmW z zo m a h) 0 [(0, .ref (m 0)), (1, .int x1)] []
  rw [F_X6_ifOrdered] at hF
  refine lm_iload_n C dX6_ifOrdered_0 rfl 1 rfl rfl ?_
  refine lm_iconst C (v := (2 : Int32)) dX6_ifOrdered_1 (by decide) rfl ?_
  obtain ⟨r1, qr1, hF⟩ := lm_bde hF
  refine lm_callSR C (n := 2) (m_X6_isWithin D z zo l   x1 (2 : Int32) r1 qr1) gX6_ifOrdered_X6_isWithin rfl (by decide +kernel) ⟨Nat.le_of_ble_eq_true rfl, Nat.le_of_ble_eq_true rfl⟩ ⟨Nat.le_of_ble_eq_true rfl, Nat.le_of_ble_eq_true rfl⟩ (fun _ h => absurd h List.not_mem_nil) rfl rfl (Nat.le_of_ble_eq_true rfl) dX6_ifOrdered_2 (st' := [.int r1]) rfl rfl ?_
  refine lm_if_ne C (tgt := 10) dX6_ifOrdered_5 (by decide) rfl (fun c2 => ?_) (fun c2 => ?_)
  · have hF := lm_brt hF c2
    refine lm_aload_n C dX6_ifOrdered_10 rfl 0 rfl rfl ?_
    refine lm_getf C (T := TX6) (N := 9) (v := .ref (a 1 0)) in6_X6_ifOrdered 0 rfl rfl 1 (by decide) fl16_X6_ifOrdered rfl rfl dX6_ifOrdered_11 rfl ?_
    refine lm_aload_n C dX6_ifOrdered_14 rfl 0 rfl rfl ?_
    refine lm_getf C (T := TX6) (N := 9) (v := .ref (a 0 0)) in6_X6_ifOrdered 0 rfl rfl 0 (by decide) fl10_X6_ifOrdered rfl rfl dX6_ifOrdered_15 rfl ?_
    obtain ⟨τ3, qτ3, hF⟩ := lm_bde hF
    obtain ⟨h4, eh4, hF⟩ := lm_lte hF
    refine lm_callV C (n := 1) (ci := 4) (w' := (lmW z zo m a h4)) hA (m_X4_copyFrom D z zo l (a 1) (a 0) (h 1) (h 0) τ3 qτ3) gX6_ifOrdered_X4_copyFrom rfl (by decide +kernel) ⟨Nat.le_of_ble_eq_true rfl, Nat.le_of_ble_eq_true rfl⟩ ⟨Nat.le_of_ble_eq_true rfl, Nat.le_of_ble_eq_true rfl⟩ 22 rfl rfl (lm_g1_0 z zo m a h) (by rw [← eh4]; exact lm_p1_0 z zo m a h τ3) rfl rfl (Nat.le_of_ble_eq_true rfl) dX6_ifOrdered_18 (st' := []) rfl rfl ?_
    refine lm_iload_n C dX6_ifOrdered_21 rfl 1 rfl rfl ?_
    refine lm_iconst C (v := (1 : Int32)) dX6_ifOrdered_22 (by decide) rfl ?_
    refine lm_icmp_ne C (tgt := 47) dX6_ifOrdered_23 (by decide) rfl (fun c5 => ?_) (fun c5 => ?_)
    · have hF := lm_brt hF c5
      refine lm_iload_n C dX6_ifOrdered_47 rfl 1 rfl rfl ?_
      refine lm_iconst C (v := (2 : Int32)) dX6_ifOrdered_48 (by decide) rfl ?_
      refine lm_icmp_ne C (tgt := 70) dX6_ifOrdered_49 (by decide) rfl (fun c6 => ?_) (fun c6 => ?_)
      · have hF := lm_brt hF c6
        refine lm_aload_n C dX6_ifOrdered_70 rfl 0 rfl rfl ?_
        refine lm_getf C (T := TX6) (N := 9) (v := .ref (a 1 0)) in6_X6_ifOrdered 0 rfl rfl 1 (by decide) fl16_X6_ifOrdered rfl rfl dX6_ifOrdered_71 rfl ?_
        refine lm_bipush C (v := (20 : Int32)) dX6_ifOrdered_74 (by decide) rfl ?_
        obtain ⟨r9, τ7, qτ7, hF⟩ := lm_b2e hF
        obtain ⟨h8, eh8, hF⟩ := lm_lte hF
        refine lm_callV C (n := 1) (ci := 4) (w' := (lmW z zo m a h8)) hA (m_X4_walk D z zo l (a 1) (h4 1) (20 : Int32) r9 τ7 qτ7) gX6_ifOrdered_X4_walk rfl (by decide +kernel) ⟨Nat.le_of_ble_eq_true rfl, Nat.le_of_ble_eq_true rfl⟩ ⟨Nat.le_of_ble_eq_true rfl, Nat.le_of_ble_eq_true rfl⟩ 22 rfl rfl (lm_g1 z zo m a h4) (by rw [← eh8]; exact lm_p1 z zo m a h4 τ7) rfl rfl (Nat.le_of_ble_eq_true rfl) dX6_ifOrdered_76 (st' := [.int r9]) rfl rfl ?_
        refine lm_pop C dX6_ifOrdered_79 rfl rfl ?_
        refine lm_aload_n C dX6_ifOrdered_80 rfl 0 rfl rfl ?_
        refine lm_iconst C (v := (2 : Int32)) dX6_ifOrdered_81 (by decide) rfl ?_
        obtain ⟨r10, qr10, hF⟩ := lm_bde hF
        refine lm_callVR C (n := 1) (ci := 6) (m_X6_brought D z zo l m a h8 (2 : Int32) r10 qr10) gX6_ifOrdered_X6_brought rfl (by decide +kernel) ⟨Nat.le_of_ble_eq_true rfl, Nat.le_of_ble_eq_true rfl⟩ ⟨Nat.le_of_ble_eq_true rfl, Nat.le_of_ble_eq_true rfl⟩ 0 rfl rfl (fun _ h => h) rfl rfl (Nat.le_of_ble_eq_true rfl) dX6_ifOrdered_82 (st' := [.int r10]) rfl rfl ?_
        cases hF
        exact lm_iret C hr hk rfl rfl dX6_ifOrdered_85
      · have hF := lm_brf hF c6
        refine lm_aload_n C dX6_ifOrdered_52 rfl 0 rfl rfl ?_
        refine lm_getf C (T := TX6) (N := 9) (v := .ref (a 1 0)) in6_X6_ifOrdered 0 rfl rfl 1 (by decide) fl16_X6_ifOrdered rfl rfl dX6_ifOrdered_53 rfl ?_
        refine lm_iconst C (v := (0 : Int32)) dX6_ifOrdered_56 (by decide) rfl ?_
        refine lm_callVR C (n := 1) (ci := 4) (m_X4_table_1 D z zo l (a 1) (h4 1) (0 : Int32) (by decide)) gX6_ifOrdered_X4_table rfl (by decide +kernel) ⟨Nat.le_of_ble_eq_true rfl, Nat.le_of_ble_eq_true rfl⟩ ⟨Nat.le_of_ble_eq_true rfl, Nat.le_of_ble_eq_true rfl⟩ 22 rfl rfl (lm_s1 z zo m a h4) rfl rfl (Nat.le_of_ble_eq_true rfl) dX6_ifOrdered_57 (st' := [.ref (a 1 1)]) rfl rfl ?_
        refine lm_aload_n C dX6_ifOrdered_60 rfl 0 rfl rfl ?_
        refine lm_getf C (T := TX6) (N := 9) (v := .ref (a 1 0)) in6_X6_ifOrdered 0 rfl rfl 1 (by decide) fl16_X6_ifOrdered rfl rfl dX6_ifOrdered_61 rfl ?_
        obtain ⟨r12, qr12, hF⟩ := lm_bde hF
        refine lm_callVR C (n := 0) (ci := 4) (m_X4_place D z zo l (a 1) (h4 1)  r12 qr12) gX6_ifOrdered_X4_place rfl (by decide +kernel) ⟨Nat.le_of_ble_eq_true rfl, Nat.le_of_ble_eq_true rfl⟩ ⟨Nat.le_of_ble_eq_true rfl, Nat.le_of_ble_eq_true rfl⟩ 22 rfl rfl (lm_s1 z zo m a h4) rfl rfl (Nat.le_of_ble_eq_true rfl) dX6_ifOrdered_64 (st' := [.int r12, .ref (a 1 1)]) rfl rfl ?_
        obtain ⟨τ13, qτ13, hF⟩ := lm_bde hF
        obtain ⟨h14, eh14, hF⟩ := lm_lte hF
        refine lm_callV C (n := 1) (ci := 5) (w' := (lmW z zo m a h14)) hA (m_X5_reverseFrom D z zo l (lm_sh 1 (a 1)) (lm_sh 1 (h4 1)) r12 τ13 qτ13) gX6_ifOrdered_X5_reverseFrom rfl (by decide +kernel) ⟨Nat.le_of_ble_eq_true rfl, Nat.le_of_ble_eq_true rfl⟩ ⟨Nat.le_of_ble_eq_true rfl, Nat.le_of_ble_eq_true rfl⟩ 23 rfl rfl (lm_pmc (lm_g1 z zo m a h4) (st_g1 z (a 1) (h4 1))) (by rw [← eh14]; exact lm_pmc' (lm_p1 z zo m a h4 _) (st_p1 z (a 1) (h4 1) τ13)) rfl rfl (Nat.le_of_ble_eq_true rfl) dX6_ifOrdered_67 (st' := []) rfl rfl ?_
        refine lm_aload_n C dX6_ifOrdered_70 rfl 0 rfl rfl ?_
        refine lm_getf C (T := TX6) (N := 9) (v := .ref (a 1 0)) in6_X6_ifOrdered 0 rfl rfl 1 (by decide) fl16_X6_ifOrdered rfl rfl dX6_ifOrdered_71 rfl ?_
        refine lm_bipush C (v := (20 : Int32)) dX6_ifOrdered_74 (by decide) rfl ?_
        obtain ⟨r17, τ15, qτ15, hF⟩ := lm_b2e hF
        obtain ⟨h16, eh16, hF⟩ := lm_lte hF
        refine lm_callV C (n := 1) (ci := 4) (w' := (lmW z zo m a h16)) hA (m_X4_walk D z zo l (a 1) (h14 1) (20 : Int32) r17 τ15 qτ15) gX6_ifOrdered_X4_walk rfl (by decide +kernel) ⟨Nat.le_of_ble_eq_true rfl, Nat.le_of_ble_eq_true rfl⟩ ⟨Nat.le_of_ble_eq_true rfl, Nat.le_of_ble_eq_true rfl⟩ 22 rfl rfl (lm_g1 z zo m a h14) (by rw [← eh16]; exact lm_p1 z zo m a h14 τ15) rfl rfl (Nat.le_of_ble_eq_true rfl) dX6_ifOrdered_76 (st' := [.int r17]) rfl rfl ?_
        refine lm_pop C dX6_ifOrdered_79 rfl rfl ?_
        refine lm_aload_n C dX6_ifOrdered_80 rfl 0 rfl rfl ?_
        refine lm_iconst C (v := (2 : Int32)) dX6_ifOrdered_81 (by decide) rfl ?_
        obtain ⟨r18, qr18, hF⟩ := lm_bde hF
        refine lm_callVR C (n := 1) (ci := 6) (m_X6_brought D z zo l m a h16 (2 : Int32) r18 qr18) gX6_ifOrdered_X6_brought rfl (by decide +kernel) ⟨Nat.le_of_ble_eq_true rfl, Nat.le_of_ble_eq_true rfl⟩ ⟨Nat.le_of_ble_eq_true rfl, Nat.le_of_ble_eq_true rfl⟩ 0 rfl rfl (fun _ h => h) rfl rfl (Nat.le_of_ble_eq_true rfl) dX6_ifOrdered_82 (st' := [.int r18]) rfl rfl ?_
        cases hF
        exact lm_iret C hr hk rfl rfl dX6_ifOrdered_85
    · have hF := lm_brf hF c5
      refine lm_aload_n C dX6_ifOrdered_26 rfl 0 rfl rfl ?_
      refine lm_getf C (T := TX6) (N := 9) (v := .ref (a 1 0)) in6_X6_ifOrdered 0 rfl rfl 1 (by decide) fl16_X6_ifOrdered rfl rfl dX6_ifOrdered_27 rfl ?_
      refine lm_iconst C (v := (0 : Int32)) dX6_ifOrdered_30 (by decide) rfl ?_
      refine lm_callVR C (n := 1) (ci := 4) (m_X4_table_1 D z zo l (a 1) (h4 1) (0 : Int32) (by decide)) gX6_ifOrdered_X4_table rfl (by decide +kernel) ⟨Nat.le_of_ble_eq_true rfl, Nat.le_of_ble_eq_true rfl⟩ ⟨Nat.le_of_ble_eq_true rfl, Nat.le_of_ble_eq_true rfl⟩ 22 rfl rfl (lm_s1 z zo m a h4) rfl rfl (Nat.le_of_ble_eq_true rfl) dX6_ifOrdered_31 (st' := [.ref (a 1 1)]) rfl rfl ?_
      refine lm_aload_n C dX6_ifOrdered_34 rfl 0 rfl rfl ?_
      refine lm_getf C (T := TX6) (N := 9) (v := .ref (a 1 0)) in6_X6_ifOrdered 0 rfl rfl 1 (by decide) fl16_X6_ifOrdered rfl rfl dX6_ifOrdered_35 rfl ?_
      obtain ⟨r20, qr20, hF⟩ := lm_bde hF
      refine lm_callVR C (n := 0) (ci := 4) (m_X4_place D z zo l (a 1) (h4 1)  r20 qr20) gX6_ifOrdered_X4_place rfl (by decide +kernel) ⟨Nat.le_of_ble_eq_true rfl, Nat.le_of_ble_eq_true rfl⟩ ⟨Nat.le_of_ble_eq_true rfl, Nat.le_of_ble_eq_true rfl⟩ 22 rfl rfl (lm_s1 z zo m a h4) rfl rfl (Nat.le_of_ble_eq_true rfl) dX6_ifOrdered_38 (st' := [.int r20, .ref (a 1 1)]) rfl rfl ?_
      obtain ⟨τ21, qτ21, hF⟩ := lm_bde hF
      obtain ⟨h22, eh22, hF⟩ := lm_lte hF
      refine lm_callV C (n := 1) (ci := 5) (w' := (lmW z zo m a h22)) hA (m_X5_sortFrom D z zo l (lm_sh 1 (a 1)) (lm_sh 1 (h4 1)) r20 τ21 qτ21) gX6_ifOrdered_X5_sortFrom rfl (by decide +kernel) ⟨Nat.le_of_ble_eq_true rfl, Nat.le_of_ble_eq_true rfl⟩ ⟨Nat.le_of_ble_eq_true rfl, Nat.le_of_ble_eq_true rfl⟩ 23 rfl rfl (lm_pmc (lm_g1 z zo m a h4) (st_g1 z (a 1) (h4 1))) (by rw [← eh22]; exact lm_pmc' (lm_p1 z zo m a h4 _) (st_p1 z (a 1) (h4 1) τ21)) rfl rfl (Nat.le_of_ble_eq_true rfl) dX6_ifOrdered_41 (st' := []) rfl rfl ?_
      refine lm_goto C (tgt := 70) dX6_ifOrdered_44 (by decide) ?_
      refine lm_aload_n C dX6_ifOrdered_70 rfl 0 rfl rfl ?_
      refine lm_getf C (T := TX6) (N := 9) (v := .ref (a 1 0)) in6_X6_ifOrdered 0 rfl rfl 1 (by decide) fl16_X6_ifOrdered rfl rfl dX6_ifOrdered_71 rfl ?_
      refine lm_bipush C (v := (20 : Int32)) dX6_ifOrdered_74 (by decide) rfl ?_
      obtain ⟨r25, τ23, qτ23, hF⟩ := lm_b2e hF
      obtain ⟨h24, eh24, hF⟩ := lm_lte hF
      refine lm_callV C (n := 1) (ci := 4) (w' := (lmW z zo m a h24)) hA (m_X4_walk D z zo l (a 1) (h22 1) (20 : Int32) r25 τ23 qτ23) gX6_ifOrdered_X4_walk rfl (by decide +kernel) ⟨Nat.le_of_ble_eq_true rfl, Nat.le_of_ble_eq_true rfl⟩ ⟨Nat.le_of_ble_eq_true rfl, Nat.le_of_ble_eq_true rfl⟩ 22 rfl rfl (lm_g1 z zo m a h22) (by rw [← eh24]; exact lm_p1 z zo m a h22 τ23) rfl rfl (Nat.le_of_ble_eq_true rfl) dX6_ifOrdered_76 (st' := [.int r25]) rfl rfl ?_
      refine lm_pop C dX6_ifOrdered_79 rfl rfl ?_
      refine lm_aload_n C dX6_ifOrdered_80 rfl 0 rfl rfl ?_
      refine lm_iconst C (v := (2 : Int32)) dX6_ifOrdered_81 (by decide) rfl ?_
      obtain ⟨r26, qr26, hF⟩ := lm_bde hF
      refine lm_callVR C (n := 1) (ci := 6) (m_X6_brought D z zo l m a h24 (2 : Int32) r26 qr26) gX6_ifOrdered_X6_brought rfl (by decide +kernel) ⟨Nat.le_of_ble_eq_true rfl, Nat.le_of_ble_eq_true rfl⟩ ⟨Nat.le_of_ble_eq_true rfl, Nat.le_of_ble_eq_true rfl⟩ 0 rfl rfl (fun _ h => h) rfl rfl (Nat.le_of_ble_eq_true rfl) dX6_ifOrdered_82 (st' := [.int r26]) rfl rfl ?_
      cases hF
      exact lm_iret C hr hk rfl rfl dX6_ifOrdered_85
  · have hF := lm_brf hF c2
    refine lm_iconst C (v := (-1 : Int32)) dX6_ifOrdered_8 (by decide) rfl ?_
    cases hF
    exact lm_iret C hr hk rfl rfl dX6_ifOrdered_9
def F_X6_leastBound_L15 : Nat → (Nat → Hp) → Int32 → Int32 → Int32 → Option (Int32 × (Nat → Hp))
  | 0, _, _, _, _ => none
  | n + 1, hx, x1, x2, x3 =>
    lm_br ((60 : Int32) < x3)
     (some (x1, hx))
     (lm_bd (F_X6_tryBound hx x3) fun h4 =>
     lm_bd (F_X6_brought h4 (2 : Int32)) fun r5 =>
     lm_br (x2 ≤ r5)
      (F_X6_leastBound_L15 n h4 x1 x2 (x3 + (1 : Int32)))
      (F_X6_leastBound_L15 n h4 x3 r5 (x3 + (1 : Int32))))
def F_X6_leastBound (h : Nat → Hp)  : Option (Int32 × (Nat → Hp)) :=
  lm_bd (F_X6_tryBound h (0 : Int32)) fun h1 =>
  lm_bd (F_X6_brought h1 (2 : Int32)) fun r2 =>
  F_X6_leastBound_L15 1000 h1 (0 : Int32) r2 (1 : Int32)
set_option maxRecDepth 100000 in
set_option maxHeartbeats 4000000 in
theorem m_X6_leastBound (D : va_G) (z zo : ClassId) (l : Launch) (m : Nat → Nat) (a : Nat → Nat → Nat) (h : Nat → Hp)  (r : Int32) (h' : Nat → Hp) (hF : F_X6_leastBound h  = some (r, h')) : lm_C D z zo l yX6_leastBound wsX6_leastBound 6 136 [.ref (m 0)] (lmW z zo m a h) (some (.int r)) (lmW z zo m a h') := by
  refine lm_C.of (by decide) rfl (Nat.le_of_ble_eq_true rfl) (own := RX6) rfl ?_
  intro p e s m_ args below meth c C hr hk hA
  have loop_15 : ∀ (n : Nat) (hx : Nat → Hp) (x1 : Int32) (x2 : Int32) (x3 : Int32), F_X6_leastBound_L15 n hx x1 x2 x3 = some (r, h') → lm_St p l e ({ frames := 6, cells := 0, slots := 0, locals := 136 }) s m_ args below meth c D (va_A (lmW z zo m a h) s.heap.size) 5 0 0 (lm_End below D (some (.int r)) (lmW z zo m a h) (lmW z zo m a h') args s) false (lmW z zo m a hx) 15 [(0, .ref (m 0)), (1, .int x1), (2, .int x2), (3, .int x3)] [] := by
    intro n
    induction n with
    | zero => intro hx x1 x2 x3 hF; cases (show (none : Option _) = some _ from hF)
    | succ n ih =>
      intro hx x1 x2 x3 hF
      rw [F_X6_leastBound_L15] at hF
      refine lm_iload_n C dX6_leastBound_15 rfl 3 rfl rfl ?_
      refine lm_bipush C (v := (60 : Int32)) dX6_leastBound_16 (by decide) rfl ?_
      refine lm_icmp_gt C (tgt := 50) dX6_leastBound_18 (by decide) rfl (fun c3 => ?_) (fun c3 => ?_)
      · have hF := lm_brt hF c3
        refine lm_iload_n C dX6_leastBound_50 rfl 1 rfl rfl ?_
        cases hF
        exact lm_iret C hr hk rfl rfl dX6_leastBound_51
      · have hF := lm_brf hF c3
        refine lm_aload_n C dX6_leastBound_21 rfl 0 rfl rfl ?_
        refine lm_iload_n C dX6_leastBound_22 rfl 3 rfl rfl ?_
        obtain ⟨h4, qh4, hF⟩ := lm_bde hF
        refine lm_callV C (n := 1) (ci := 6) (w' := (lmW z zo m a h4)) hA (m_X6_tryBound D z zo l m a hx x3 h4 qh4) gX6_leastBound_X6_tryBound rfl (by decide +kernel) ⟨Nat.le_of_ble_eq_true rfl, Nat.le_of_ble_eq_true rfl⟩ ⟨Nat.le_of_ble_eq_true rfl, Nat.le_of_ble_eq_true rfl⟩ 0 rfl rfl lm_pr lm_pr' rfl rfl (Nat.le_of_ble_eq_true rfl) dX6_leastBound_23 (st' := []) rfl rfl ?_
        refine lm_aload_n C dX6_leastBound_26 rfl 0 rfl rfl ?_
        refine lm_iconst C (v := (2 : Int32)) dX6_leastBound_27 (by decide) rfl ?_
        obtain ⟨r5, qr5, hF⟩ := lm_bde hF
        refine lm_callVR C (n := 1) (ci := 6) (m_X6_brought D z zo l m a h4 (2 : Int32) r5 qr5) gX6_leastBound_X6_brought rfl (by decide +kernel) ⟨Nat.le_of_ble_eq_true rfl, Nat.le_of_ble_eq_true rfl⟩ ⟨Nat.le_of_ble_eq_true rfl, Nat.le_of_ble_eq_true rfl⟩ 0 rfl rfl (fun _ h => h) rfl rfl (Nat.le_of_ble_eq_true rfl) dX6_leastBound_28 (st' := [.int r5]) rfl rfl ?_
        refine lm_istore C (lv' := [(0, .ref (m 0)), (1, .int x1), (2, .int x2), (3, .int x3), (4, .int r5)]) dX6_leastBound_31 (by decide) rfl [1, 2, 3, 4, 0] rfl rfl ?_
        refine lm_iload C dX6_leastBound_33 4 rfl rfl ?_
        refine lm_iload_n C dX6_leastBound_35 rfl 2 rfl rfl ?_
        refine lm_icmp_ge C (tgt := 44) dX6_leastBound_36 (by decide) rfl (fun c6 => ?_) (fun c6 => ?_)
        · have hF := lm_brt hF c6
          refine lm_iinc C (lv' := [(0, .ref (m 0)), (1, .int x1), (2, .int x2), (3, .int (x3 + (1 : Int32))), (4, .int r5)]) (x3 + (1 : Int32)) dX6_leastBound_44 3 rfl rfl (by decide) rfl [1, 2, 3, 0, 4] rfl rfl ?_
          refine lm_goto C (tgt := 15) dX6_leastBound_47 (by decide) ?_
          refine lm_lvsub (lv' := [(0, .ref (m 0)), (1, .int x1), (2, .int x2), (3, .int (x3 + (1 : Int32)))]) [0, 1, 2, 3] rfl ?_
          exact ih h4 x1 x2 (x3 + (1 : Int32)) hF
        · have hF := lm_brf hF c6
          refine lm_iload C dX6_leastBound_39 4 rfl rfl ?_
          refine lm_istore_n C (lv' := [(0, .ref (m 0)), (1, .int x1), (2, .int r5), (3, .int x3), (4, .int r5)]) dX6_leastBound_41 rfl (by decide) rfl [1, 2, 0, 3, 4] rfl rfl ?_
          refine lm_iload_n C dX6_leastBound_42 rfl 3 rfl rfl ?_
          refine lm_istore_n C (lv' := [(0, .ref (m 0)), (1, .int x3), (2, .int r5), (3, .int x3), (4, .int r5)]) dX6_leastBound_43 rfl (by decide) rfl [1, 0, 2, 3, 4] rfl rfl ?_
          refine lm_iinc C (lv' := [(0, .ref (m 0)), (1, .int x3), (2, .int r5), (3, .int (x3 + (1 : Int32))), (4, .int r5)]) (x3 + (1 : Int32)) dX6_leastBound_44 3 rfl rfl (by decide) rfl [1, 2, 3, 0, 4] rfl rfl ?_
          refine lm_goto C (tgt := 15) dX6_leastBound_47 (by decide) ?_
          refine lm_lvsub (lv' := [(0, .ref (m 0)), (1, .int x3), (2, .int r5), (3, .int (x3 + (1 : Int32)))]) [0, 1, 2, 3] rfl ?_
          exact ih h4 x3 r5 (x3 + (1 : Int32)) hF
  show lm_St p l e ({ frames := 6, cells := 0, slots := 0, locals := 136 }) s m_ args below meth c D (va_A (lmW z zo m a h) s.heap.size) 5 0 0 (lm_End below D (some (.int r)) (lmW z zo m a h) (lmW z zo m a h') args s) false (lmW z zo m a h) 0 [(0, .ref (m 0))] []
  rw [F_X6_leastBound] at hF
  refine lm_aload_n C dX6_leastBound_0 rfl 0 rfl rfl ?_
  refine lm_iconst C (v := (0 : Int32)) dX6_leastBound_1 (by decide) rfl ?_
  obtain ⟨h1, qh1, hF⟩ := lm_bde hF
  refine lm_callV C (n := 1) (ci := 6) (w' := (lmW z zo m a h1)) hA (m_X6_tryBound D z zo l m a h (0 : Int32) h1 qh1) gX6_leastBound_X6_tryBound rfl (by decide +kernel) ⟨Nat.le_of_ble_eq_true rfl, Nat.le_of_ble_eq_true rfl⟩ ⟨Nat.le_of_ble_eq_true rfl, Nat.le_of_ble_eq_true rfl⟩ 0 rfl rfl lm_pr lm_pr' rfl rfl (Nat.le_of_ble_eq_true rfl) dX6_leastBound_2 (st' := []) rfl rfl ?_
  refine lm_iconst C (v := (0 : Int32)) dX6_leastBound_5 (by decide) rfl ?_
  refine lm_istore_n C (lv' := [(0, .ref (m 0)), (1, .int (0 : Int32))]) dX6_leastBound_6 rfl (by decide) rfl [1, 0] rfl rfl ?_
  refine lm_aload_n C dX6_leastBound_7 rfl 0 rfl rfl ?_
  refine lm_iconst C (v := (2 : Int32)) dX6_leastBound_8 (by decide) rfl ?_
  obtain ⟨r2, qr2, hF⟩ := lm_bde hF
  refine lm_callVR C (n := 1) (ci := 6) (m_X6_brought D z zo l m a h1 (2 : Int32) r2 qr2) gX6_leastBound_X6_brought rfl (by decide +kernel) ⟨Nat.le_of_ble_eq_true rfl, Nat.le_of_ble_eq_true rfl⟩ ⟨Nat.le_of_ble_eq_true rfl, Nat.le_of_ble_eq_true rfl⟩ 0 rfl rfl (fun _ h => h) rfl rfl (Nat.le_of_ble_eq_true rfl) dX6_leastBound_9 (st' := [.int r2]) rfl rfl ?_
  refine lm_istore_n C (lv' := [(0, .ref (m 0)), (1, .int (0 : Int32)), (2, .int r2)]) dX6_leastBound_12 rfl (by decide) rfl [1, 2, 0] rfl rfl ?_
  refine lm_iconst C (v := (1 : Int32)) dX6_leastBound_13 (by decide) rfl ?_
  refine lm_istore_n C (lv' := [(0, .ref (m 0)), (1, .int (0 : Int32)), (2, .int r2), (3, .int (1 : Int32))]) dX6_leastBound_14 rfl (by decide) rfl [1, 2, 3, 0] rfl rfl ?_
  exact loop_15 1000 h1 (0 : Int32) r2 (1 : Int32) hF
def F_X6_undo (h : Nat → Hp)  : Option (Int32 × (Nat → Hp)) :=
  lm_b2 (F_X1_pop h) fun r1 h2 =>
  lm_br (r1 = (-1 : Int32))
   (some ((-2 : Int32), h2))
   (lm_br (r1 = (0 : Int32))
    (lm_bd (F_X4_copyFrom (h2 0) (h2 3)) fun τ5 =>
    lm_lt (lm_uB h2 0 τ5) fun h6 =>
    lm_bd (F_X1_size h6) fun r7 =>
    some (r7, h6))
    (lm_br (r1 = (1 : Int32))
     (lm_bd (F_X4_copyFrom (h2 0) (h2 4)) fun τ9 =>
     lm_lt (lm_uB h2 0 τ9) fun h10 =>
     lm_bd (F_X1_size h10) fun r11 =>
     some (r11, h10))
     (lm_br (r1 = (2 : Int32))
      (lm_bd (F_X4_copyFrom (h2 0) (h2 5)) fun τ13 =>
      lm_lt (lm_uB h2 0 τ13) fun h14 =>
      lm_bd (F_X1_size h14) fun r15 =>
      some (r15, h14))
      (lm_br (r1 = (3 : Int32))
       (lm_bd (F_X4_copyFrom (h2 0) (h2 6)) fun τ17 =>
       lm_lt (lm_uB h2 0 τ17) fun h18 =>
       lm_bd (F_X1_size h18) fun r19 =>
       some (r19, h18))
       (lm_br (r1 = (4 : Int32))
        (lm_bd (F_X4_copyFrom (h2 0) (h2 7)) fun τ21 =>
        lm_lt (lm_uB h2 0 τ21) fun h22 =>
        lm_bd (F_X1_size h22) fun r23 =>
        some (r23, h22))
        (none))))))
theorem in6_X6_undo : ∀ w ∈ u_ws RX6 TX6 9, w ∈ wsX6_undo := by decide +kernel
theorem fl25_X6_undo : Cond.fieldLink RX6 25 "LoopMemo" "history" "LLoopMemo$History;" ∈ wsX6_undo := by decide +kernel
theorem fl10_X6_undo : Cond.fieldLink RX6 10 "LoopMemo" "now" "LLoopMemo$State;" ∈ wsX6_undo := by decide +kernel
set_option maxRecDepth 100000 in
set_option maxHeartbeats 4000000 in
theorem m_X6_undo (D : va_G) (z zo : ClassId) (l : Launch) (m : Nat → Nat) (a : Nat → Nat → Nat) (h : Nat → Hp)  (r : Int32) (h' : Nat → Hp) (hF : F_X6_undo h  = some (r, h')) : lm_C D z zo l yX6_undo wsX6_undo 4 103 [.ref (m 0)] (lmW z zo m a h) (some (.int r)) (lmW z zo m a h') := by
  refine lm_C.of (by decide) rfl (Nat.le_of_ble_eq_true rfl) (own := RX6) rfl ?_
  intro p e s m_ args below meth c C hr hk hA
  show lm_St p l e ({ frames := 4, cells := 0, slots := 0, locals := 103 }) s m_ args below meth c D (va_A (lmW z zo m a h) s.heap.size) 2 0 0 (lm_End below D (some (.int r)) (lmW z zo m a h) (lmW z zo m a h') args s) false (lmW z zo m a h) 0 [(0, .ref (m 0))] []
  rw [F_X6_undo] at hF
  refine lm_aload_n C dX6_undo_0 rfl 0 rfl rfl ?_
  refine lm_getf C (T := TX6) (N := 9) (v := .ref (m 3)) in6_X6_undo 0 rfl rfl 3 (by decide) fl25_X6_undo rfl rfl dX6_undo_1 rfl ?_
  obtain ⟨r1, h2, qr1, hF⟩ := lm_b2e hF
  rcases Classical.em (r1 = (-1 : Int32)) with c3 | c3
  · have hF := lm_brt hF c3
    refine lm_callV C (n := 0) (ci := 1) (w' := (lmW z zo m a h2)) hA (m_X1_pop D z zo l m a h r1 h2 qr1) gX6_undo_X1_pop rfl (by decide +kernel) ⟨Nat.le_of_ble_eq_true rfl, Nat.le_of_ble_eq_true rfl⟩ ⟨Nat.le_of_ble_eq_true rfl, Nat.le_of_ble_eq_true rfl⟩ 3 rfl rfl lm_pr lm_pr' rfl rfl (Nat.le_of_ble_eq_true rfl) dX6_undo_4 (st' := [.null]) (by rw [c3]; rfl) rfl ?_
    refine lm_astore_nN C (lv' := [(0, .ref (m 0)), (1, .null)]) dX6_undo_7 rfl (by decide) rfl [1, 0] rfl rfl ?_
    refine lm_aload_nN C dX6_undo_8 rfl 1 rfl rfl ?_
    refine lm_ifnonnullN C dX6_undo_9 rfl ?_
    refine lm_bipush C (v := (-2 : Int32)) dX6_undo_12 (by decide) rfl ?_
    cases hF
    exact lm_iret C hr hk rfl rfl dX6_undo_14
  · have hF := lm_brf hF c3
    rcases Classical.em (r1 = (0 : Int32)) with c4 | c4
    · have hF := lm_brt hF c4
      refine lm_callV C (n := 0) (ci := 1) (w' := (lmW z zo m a h2)) hA (m_X1_pop D z zo l m a h r1 h2 qr1) gX6_undo_X1_pop rfl (by decide +kernel) ⟨Nat.le_of_ble_eq_true rfl, Nat.le_of_ble_eq_true rfl⟩ ⟨Nat.le_of_ble_eq_true rfl, Nat.le_of_ble_eq_true rfl⟩ 3 rfl rfl lm_pr lm_pr' rfl rfl (Nat.le_of_ble_eq_true rfl) dX6_undo_4 (st' := [.ref (a 3 0)]) (by rw [c4]; rfl) rfl ?_
      refine lm_astore_n C (lv' := [(0, .ref (m 0)), (1, .ref (a 3 0))]) dX6_undo_7 rfl (by decide) rfl [1, 0] rfl rfl ?_
      refine lm_aload_n C dX6_undo_8 rfl 1 rfl rfl ?_
      refine lm_ifnonnull C (tgt := 15) dX6_undo_9 (by decide) ?_
      refine lm_aload_n C dX6_undo_15 rfl 0 rfl rfl ?_
      refine lm_getf C (T := TX6) (N := 9) (v := .ref (a 0 0)) in6_X6_undo 0 rfl rfl 0 (by decide) fl10_X6_undo rfl rfl dX6_undo_16 rfl ?_
      refine lm_aload_n C dX6_undo_19 rfl 1 rfl rfl ?_
      obtain ⟨τ5, qτ5, hF⟩ := lm_bde hF
      obtain ⟨h6, eh6, hF⟩ := lm_lte hF
      refine lm_callV C (n := 1) (ci := 4) (w' := (lmW z zo m a h6)) hA (m_X4_copyFrom D z zo l (a 0) (a 3) (h2 0) (h2 3) τ5 qτ5) gX6_undo_X4_copyFrom rfl (by decide +kernel) ⟨Nat.le_of_ble_eq_true rfl, Nat.le_of_ble_eq_true rfl⟩ ⟨Nat.le_of_ble_eq_true rfl, Nat.le_of_ble_eq_true rfl⟩ 5 rfl rfl (lm_g0_3 z zo m a h2) (by rw [← eh6]; exact lm_p0_3 z zo m a h2 τ5) rfl rfl (Nat.le_of_ble_eq_true rfl) dX6_undo_20 (st' := []) rfl rfl ?_
      refine lm_aload_n C dX6_undo_23 rfl 0 rfl rfl ?_
      refine lm_getf C (T := TX6) (N := 9) (v := .ref (m 3)) in6_X6_undo 0 rfl rfl 3 (by decide) fl25_X6_undo rfl rfl dX6_undo_24 rfl ?_
      obtain ⟨r7, qr7, hF⟩ := lm_bde hF
      refine lm_callVR C (n := 0) (ci := 1) (m_X1_size D z zo l m a h6  r7 qr7) gX6_undo_X1_size rfl (by decide +kernel) ⟨Nat.le_of_ble_eq_true rfl, Nat.le_of_ble_eq_true rfl⟩ ⟨Nat.le_of_ble_eq_true rfl, Nat.le_of_ble_eq_true rfl⟩ 3 rfl rfl (fun _ h => h) rfl rfl (Nat.le_of_ble_eq_true rfl) dX6_undo_27 (st' := [.int r7]) rfl rfl ?_
      cases hF
      exact lm_iret C hr hk rfl rfl dX6_undo_30
    · have hF := lm_brf hF c4
      rcases Classical.em (r1 = (1 : Int32)) with c8 | c8
      · have hF := lm_brt hF c8
        refine lm_callV C (n := 0) (ci := 1) (w' := (lmW z zo m a h2)) hA (m_X1_pop D z zo l m a h r1 h2 qr1) gX6_undo_X1_pop rfl (by decide +kernel) ⟨Nat.le_of_ble_eq_true rfl, Nat.le_of_ble_eq_true rfl⟩ ⟨Nat.le_of_ble_eq_true rfl, Nat.le_of_ble_eq_true rfl⟩ 3 rfl rfl lm_pr lm_pr' rfl rfl (Nat.le_of_ble_eq_true rfl) dX6_undo_4 (st' := [.ref (a 4 0)]) (by rw [c8]; rfl) rfl ?_
        refine lm_astore_n C (lv' := [(0, .ref (m 0)), (1, .ref (a 4 0))]) dX6_undo_7 rfl (by decide) rfl [1, 0] rfl rfl ?_
        refine lm_aload_n C dX6_undo_8 rfl 1 rfl rfl ?_
        refine lm_ifnonnull C (tgt := 15) dX6_undo_9 (by decide) ?_
        refine lm_aload_n C dX6_undo_15 rfl 0 rfl rfl ?_
        refine lm_getf C (T := TX6) (N := 9) (v := .ref (a 0 0)) in6_X6_undo 0 rfl rfl 0 (by decide) fl10_X6_undo rfl rfl dX6_undo_16 rfl ?_
        refine lm_aload_n C dX6_undo_19 rfl 1 rfl rfl ?_
        obtain ⟨τ9, qτ9, hF⟩ := lm_bde hF
        obtain ⟨h10, eh10, hF⟩ := lm_lte hF
        refine lm_callV C (n := 1) (ci := 4) (w' := (lmW z zo m a h10)) hA (m_X4_copyFrom D z zo l (a 0) (a 4) (h2 0) (h2 4) τ9 qτ9) gX6_undo_X4_copyFrom rfl (by decide +kernel) ⟨Nat.le_of_ble_eq_true rfl, Nat.le_of_ble_eq_true rfl⟩ ⟨Nat.le_of_ble_eq_true rfl, Nat.le_of_ble_eq_true rfl⟩ 5 rfl rfl (lm_g0_4 z zo m a h2) (by rw [← eh10]; exact lm_p0_4 z zo m a h2 τ9) rfl rfl (Nat.le_of_ble_eq_true rfl) dX6_undo_20 (st' := []) rfl rfl ?_
        refine lm_aload_n C dX6_undo_23 rfl 0 rfl rfl ?_
        refine lm_getf C (T := TX6) (N := 9) (v := .ref (m 3)) in6_X6_undo 0 rfl rfl 3 (by decide) fl25_X6_undo rfl rfl dX6_undo_24 rfl ?_
        obtain ⟨r11, qr11, hF⟩ := lm_bde hF
        refine lm_callVR C (n := 0) (ci := 1) (m_X1_size D z zo l m a h10  r11 qr11) gX6_undo_X1_size rfl (by decide +kernel) ⟨Nat.le_of_ble_eq_true rfl, Nat.le_of_ble_eq_true rfl⟩ ⟨Nat.le_of_ble_eq_true rfl, Nat.le_of_ble_eq_true rfl⟩ 3 rfl rfl (fun _ h => h) rfl rfl (Nat.le_of_ble_eq_true rfl) dX6_undo_27 (st' := [.int r11]) rfl rfl ?_
        cases hF
        exact lm_iret C hr hk rfl rfl dX6_undo_30
      · have hF := lm_brf hF c8
        rcases Classical.em (r1 = (2 : Int32)) with c12 | c12
        · have hF := lm_brt hF c12
          refine lm_callV C (n := 0) (ci := 1) (w' := (lmW z zo m a h2)) hA (m_X1_pop D z zo l m a h r1 h2 qr1) gX6_undo_X1_pop rfl (by decide +kernel) ⟨Nat.le_of_ble_eq_true rfl, Nat.le_of_ble_eq_true rfl⟩ ⟨Nat.le_of_ble_eq_true rfl, Nat.le_of_ble_eq_true rfl⟩ 3 rfl rfl lm_pr lm_pr' rfl rfl (Nat.le_of_ble_eq_true rfl) dX6_undo_4 (st' := [.ref (a 5 0)]) (by rw [c12]; rfl) rfl ?_
          refine lm_astore_n C (lv' := [(0, .ref (m 0)), (1, .ref (a 5 0))]) dX6_undo_7 rfl (by decide) rfl [1, 0] rfl rfl ?_
          refine lm_aload_n C dX6_undo_8 rfl 1 rfl rfl ?_
          refine lm_ifnonnull C (tgt := 15) dX6_undo_9 (by decide) ?_
          refine lm_aload_n C dX6_undo_15 rfl 0 rfl rfl ?_
          refine lm_getf C (T := TX6) (N := 9) (v := .ref (a 0 0)) in6_X6_undo 0 rfl rfl 0 (by decide) fl10_X6_undo rfl rfl dX6_undo_16 rfl ?_
          refine lm_aload_n C dX6_undo_19 rfl 1 rfl rfl ?_
          obtain ⟨τ13, qτ13, hF⟩ := lm_bde hF
          obtain ⟨h14, eh14, hF⟩ := lm_lte hF
          refine lm_callV C (n := 1) (ci := 4) (w' := (lmW z zo m a h14)) hA (m_X4_copyFrom D z zo l (a 0) (a 5) (h2 0) (h2 5) τ13 qτ13) gX6_undo_X4_copyFrom rfl (by decide +kernel) ⟨Nat.le_of_ble_eq_true rfl, Nat.le_of_ble_eq_true rfl⟩ ⟨Nat.le_of_ble_eq_true rfl, Nat.le_of_ble_eq_true rfl⟩ 5 rfl rfl (lm_g0_5 z zo m a h2) (by rw [← eh14]; exact lm_p0_5 z zo m a h2 τ13) rfl rfl (Nat.le_of_ble_eq_true rfl) dX6_undo_20 (st' := []) rfl rfl ?_
          refine lm_aload_n C dX6_undo_23 rfl 0 rfl rfl ?_
          refine lm_getf C (T := TX6) (N := 9) (v := .ref (m 3)) in6_X6_undo 0 rfl rfl 3 (by decide) fl25_X6_undo rfl rfl dX6_undo_24 rfl ?_
          obtain ⟨r15, qr15, hF⟩ := lm_bde hF
          refine lm_callVR C (n := 0) (ci := 1) (m_X1_size D z zo l m a h14  r15 qr15) gX6_undo_X1_size rfl (by decide +kernel) ⟨Nat.le_of_ble_eq_true rfl, Nat.le_of_ble_eq_true rfl⟩ ⟨Nat.le_of_ble_eq_true rfl, Nat.le_of_ble_eq_true rfl⟩ 3 rfl rfl (fun _ h => h) rfl rfl (Nat.le_of_ble_eq_true rfl) dX6_undo_27 (st' := [.int r15]) rfl rfl ?_
          cases hF
          exact lm_iret C hr hk rfl rfl dX6_undo_30
        · have hF := lm_brf hF c12
          rcases Classical.em (r1 = (3 : Int32)) with c16 | c16
          · have hF := lm_brt hF c16
            refine lm_callV C (n := 0) (ci := 1) (w' := (lmW z zo m a h2)) hA (m_X1_pop D z zo l m a h r1 h2 qr1) gX6_undo_X1_pop rfl (by decide +kernel) ⟨Nat.le_of_ble_eq_true rfl, Nat.le_of_ble_eq_true rfl⟩ ⟨Nat.le_of_ble_eq_true rfl, Nat.le_of_ble_eq_true rfl⟩ 3 rfl rfl lm_pr lm_pr' rfl rfl (Nat.le_of_ble_eq_true rfl) dX6_undo_4 (st' := [.ref (a 6 0)]) (by rw [c16]; rfl) rfl ?_
            refine lm_astore_n C (lv' := [(0, .ref (m 0)), (1, .ref (a 6 0))]) dX6_undo_7 rfl (by decide) rfl [1, 0] rfl rfl ?_
            refine lm_aload_n C dX6_undo_8 rfl 1 rfl rfl ?_
            refine lm_ifnonnull C (tgt := 15) dX6_undo_9 (by decide) ?_
            refine lm_aload_n C dX6_undo_15 rfl 0 rfl rfl ?_
            refine lm_getf C (T := TX6) (N := 9) (v := .ref (a 0 0)) in6_X6_undo 0 rfl rfl 0 (by decide) fl10_X6_undo rfl rfl dX6_undo_16 rfl ?_
            refine lm_aload_n C dX6_undo_19 rfl 1 rfl rfl ?_
            obtain ⟨τ17, qτ17, hF⟩ := lm_bde hF
            obtain ⟨h18, eh18, hF⟩ := lm_lte hF
            refine lm_callV C (n := 1) (ci := 4) (w' := (lmW z zo m a h18)) hA (m_X4_copyFrom D z zo l (a 0) (a 6) (h2 0) (h2 6) τ17 qτ17) gX6_undo_X4_copyFrom rfl (by decide +kernel) ⟨Nat.le_of_ble_eq_true rfl, Nat.le_of_ble_eq_true rfl⟩ ⟨Nat.le_of_ble_eq_true rfl, Nat.le_of_ble_eq_true rfl⟩ 5 rfl rfl (lm_g0_6 z zo m a h2) (by rw [← eh18]; exact lm_p0_6 z zo m a h2 τ17) rfl rfl (Nat.le_of_ble_eq_true rfl) dX6_undo_20 (st' := []) rfl rfl ?_
            refine lm_aload_n C dX6_undo_23 rfl 0 rfl rfl ?_
            refine lm_getf C (T := TX6) (N := 9) (v := .ref (m 3)) in6_X6_undo 0 rfl rfl 3 (by decide) fl25_X6_undo rfl rfl dX6_undo_24 rfl ?_
            obtain ⟨r19, qr19, hF⟩ := lm_bde hF
            refine lm_callVR C (n := 0) (ci := 1) (m_X1_size D z zo l m a h18  r19 qr19) gX6_undo_X1_size rfl (by decide +kernel) ⟨Nat.le_of_ble_eq_true rfl, Nat.le_of_ble_eq_true rfl⟩ ⟨Nat.le_of_ble_eq_true rfl, Nat.le_of_ble_eq_true rfl⟩ 3 rfl rfl (fun _ h => h) rfl rfl (Nat.le_of_ble_eq_true rfl) dX6_undo_27 (st' := [.int r19]) rfl rfl ?_
            cases hF
            exact lm_iret C hr hk rfl rfl dX6_undo_30
          · have hF := lm_brf hF c16
            rcases Classical.em (r1 = (4 : Int32)) with c20 | c20
            · have hF := lm_brt hF c20
              refine lm_callV C (n := 0) (ci := 1) (w' := (lmW z zo m a h2)) hA (m_X1_pop D z zo l m a h r1 h2 qr1) gX6_undo_X1_pop rfl (by decide +kernel) ⟨Nat.le_of_ble_eq_true rfl, Nat.le_of_ble_eq_true rfl⟩ ⟨Nat.le_of_ble_eq_true rfl, Nat.le_of_ble_eq_true rfl⟩ 3 rfl rfl lm_pr lm_pr' rfl rfl (Nat.le_of_ble_eq_true rfl) dX6_undo_4 (st' := [.ref (a 7 0)]) (by rw [c20]; rfl) rfl ?_
              refine lm_astore_n C (lv' := [(0, .ref (m 0)), (1, .ref (a 7 0))]) dX6_undo_7 rfl (by decide) rfl [1, 0] rfl rfl ?_
              refine lm_aload_n C dX6_undo_8 rfl 1 rfl rfl ?_
              refine lm_ifnonnull C (tgt := 15) dX6_undo_9 (by decide) ?_
              refine lm_aload_n C dX6_undo_15 rfl 0 rfl rfl ?_
              refine lm_getf C (T := TX6) (N := 9) (v := .ref (a 0 0)) in6_X6_undo 0 rfl rfl 0 (by decide) fl10_X6_undo rfl rfl dX6_undo_16 rfl ?_
              refine lm_aload_n C dX6_undo_19 rfl 1 rfl rfl ?_
              obtain ⟨τ21, qτ21, hF⟩ := lm_bde hF
              obtain ⟨h22, eh22, hF⟩ := lm_lte hF
              refine lm_callV C (n := 1) (ci := 4) (w' := (lmW z zo m a h22)) hA (m_X4_copyFrom D z zo l (a 0) (a 7) (h2 0) (h2 7) τ21 qτ21) gX6_undo_X4_copyFrom rfl (by decide +kernel) ⟨Nat.le_of_ble_eq_true rfl, Nat.le_of_ble_eq_true rfl⟩ ⟨Nat.le_of_ble_eq_true rfl, Nat.le_of_ble_eq_true rfl⟩ 5 rfl rfl (lm_g0_7 z zo m a h2) (by rw [← eh22]; exact lm_p0_7 z zo m a h2 τ21) rfl rfl (Nat.le_of_ble_eq_true rfl) dX6_undo_20 (st' := []) rfl rfl ?_
              refine lm_aload_n C dX6_undo_23 rfl 0 rfl rfl ?_
              refine lm_getf C (T := TX6) (N := 9) (v := .ref (m 3)) in6_X6_undo 0 rfl rfl 3 (by decide) fl25_X6_undo rfl rfl dX6_undo_24 rfl ?_
              obtain ⟨r23, qr23, hF⟩ := lm_bde hF
              refine lm_callVR C (n := 0) (ci := 1) (m_X1_size D z zo l m a h22  r23 qr23) gX6_undo_X1_size rfl (by decide +kernel) ⟨Nat.le_of_ble_eq_true rfl, Nat.le_of_ble_eq_true rfl⟩ ⟨Nat.le_of_ble_eq_true rfl, Nat.le_of_ble_eq_true rfl⟩ 3 rfl rfl (fun _ h => h) rfl rfl (Nat.le_of_ble_eq_true rfl) dX6_undo_27 (st' := [.int r23]) rfl rfl ?_
              cases hF
              exact lm_iret C hr hk rfl rfl dX6_undo_30
            · have hF := lm_brf hF c20
              cases hF
def F_X6_save (h : Nat → Hp)  : Option (Int32 × (Nat → Hp)) :=
  lm_bd (F_X4_copyFrom (h 2) (h 0)) fun τ1 =>
  lm_lt (lm_uB h 2 τ1) fun h2 =>
  lm_lt (lm_uB h2 8 (lm_u (h2 8) 0 5 (1 : Int32))) fun h3 =>
  lm_bd (F_X2_size (lm_sh 11 (h3 0))) fun r4 =>
  some (r4, h3)
theorem in6_X6_save : ∀ w ∈ u_ws RX6 TX6 9, w ∈ wsX6_save := by decide +kernel
theorem fl19_X6_save : Cond.fieldLink RX6 19 "LoopMemo" "snapshot" "LLoopMemo$State;" ∈ wsX6_save := by decide +kernel
theorem fl10_X6_save : Cond.fieldLink RX6 10 "LoopMemo" "now" "LLoopMemo$State;" ∈ wsX6_save := by decide +kernel
theorem fl218_X6_save : Cond.fieldLink RX6 218 "LoopMemo" "hasSnapshot" "Z" ∈ wsX6_save := by decide +kernel
set_option maxRecDepth 100000 in
set_option maxHeartbeats 4000000 in
theorem m_X6_save (D : va_G) (z zo : ClassId) (l : Launch) (m : Nat → Nat) (a : Nat → Nat → Nat) (h : Nat → Hp)  (r : Int32) (h' : Nat → Hp) (hF : F_X6_save h  = some (r, h')) : lm_C D z zo l yX6_save wsX6_save 4 103 [.ref (m 0)] (lmW z zo m a h) (some (.int r)) (lmW z zo m a h') := by
  refine lm_C.of (by decide) rfl (Nat.le_of_ble_eq_true rfl) (own := RX6) rfl ?_
  intro p e s m_ args below meth c C hr hk hA
  show lm_St p l e ({ frames := 4, cells := 0, slots := 0, locals := 103 }) s m_ args below meth c D (va_A (lmW z zo m a h) s.heap.size) 1 0 0 (lm_End below D (some (.int r)) (lmW z zo m a h) (lmW z zo m a h') args s) false (lmW z zo m a h) 0 [(0, .ref (m 0))] []
  rw [F_X6_save] at hF
  refine lm_aload_n C dX6_save_0 rfl 0 rfl rfl ?_
  refine lm_getf C (T := TX6) (N := 9) (v := .ref (a 2 0)) in6_X6_save 0 rfl rfl 2 (by decide) fl19_X6_save rfl rfl dX6_save_1 rfl ?_
  refine lm_aload_n C dX6_save_4 rfl 0 rfl rfl ?_
  refine lm_getf C (T := TX6) (N := 9) (v := .ref (a 0 0)) in6_X6_save 0 rfl rfl 0 (by decide) fl10_X6_save rfl rfl dX6_save_5 rfl ?_
  obtain ⟨τ1, qτ1, hF⟩ := lm_bde hF
  obtain ⟨h2, eh2, hF⟩ := lm_lte hF
  refine lm_callV C (n := 1) (ci := 4) (w' := (lmW z zo m a h2)) hA (m_X4_copyFrom D z zo l (a 2) (a 0) (h 2) (h 0) τ1 qτ1) gX6_save_X4_copyFrom rfl (by decide +kernel) ⟨Nat.le_of_ble_eq_true rfl, Nat.le_of_ble_eq_true rfl⟩ ⟨Nat.le_of_ble_eq_true rfl, Nat.le_of_ble_eq_true rfl⟩ 39 rfl rfl (lm_g2_0 z zo m a h) (by rw [← eh2]; exact lm_p2_0 z zo m a h τ1) rfl rfl (Nat.le_of_ble_eq_true rfl) dX6_save_8 (st' := []) rfl rfl ?_
  refine lm_aload_n C dX6_save_11 rfl 0 rfl rfl ?_
  refine lm_iconst C (v := (1 : Int32)) dX6_save_12 (by decide) rfl ?_
  obtain ⟨h3, eh3, hF⟩ := lm_lte hF
  refine lm_putf C (T := TX6) (N := 9) (ty := .boolean) (v := .int (1 : Int32)) (w' := (lmW z zo m a h3)) in6_X6_save tyX6 tyX6_ok nmX6 0 rfl rfl 5 (by decide) fl218_X6_save rfl rfl rfl rfl rfl (Nat.le_of_ble_eq_true rfl) dX6_save_13 (by rw [← eh3]; rfl) rfl ?_
  refine lm_aload_n C dX6_save_16 rfl 0 rfl rfl ?_
  refine lm_getf C (T := TX6) (N := 9) (v := .ref (a 0 0)) in6_X6_save 0 rfl rfl 0 (by decide) fl10_X6_save rfl rfl dX6_save_17 rfl ?_
  refine lm_callVR C (n := 0) (ci := 4) (m_X4_memo_1 D z zo l (a 0) (h3 0)  ) gX6_save_X4_memo rfl (by decide +kernel) ⟨Nat.le_of_ble_eq_true rfl, Nat.le_of_ble_eq_true rfl⟩ ⟨Nat.le_of_ble_eq_true rfl, Nat.le_of_ble_eq_true rfl⟩ 5 rfl rfl (lm_s0 z zo m a h3) rfl rfl (Nat.le_of_ble_eq_true rfl) dX6_save_20 (st' := [.ref (a 0 11)]) rfl rfl ?_
  obtain ⟨r4, qr4, hF⟩ := lm_bde hF
  refine lm_callVR C (n := 0) (ci := 2) (m_X2_size D z zo l (lm_sh 11 (a 0)) (lm_sh 11 (h3 0))  r4 qr4) gX6_save_X2_size rfl (by decide +kernel) ⟨Nat.le_of_ble_eq_true rfl, Nat.le_of_ble_eq_true rfl⟩ ⟨Nat.le_of_ble_eq_true rfl, Nat.le_of_ble_eq_true rfl⟩ 16 rfl rfl (fun q hq => lm_s0 z zo m a h3 q (st_s11 z (a 0) (h3 0) q hq)) rfl rfl (Nat.le_of_ble_eq_true rfl) dX6_save_23 (st' := [.int r4]) rfl rfl ?_
  cases hF
  exact lm_iret C hr hk rfl rfl dX6_save_26
def F_X6_restore (h : Nat → Hp)  : Option (Int32 × (Nat → Hp)) :=
  lm_br (¬ (h 8 0 5) = 0)
   (lm_bd (F_X1_prepare h) fun h2 =>
   lm_bd (F_X4_copyFrom (h2 0) (h2 2)) fun τ3 =>
   lm_lt (lm_uB h2 0 τ3) fun h4 =>
   lm_bd (F_X2_size (lm_sh 11 (h4 0))) fun r5 =>
   lm_b2 (F_X1_commit h4 r5) fun r7 h6 =>
   some (r7, h6))
   (some ((-2 : Int32), h))
theorem in6_X6_restore : ∀ w ∈ u_ws RX6 TX6 9, w ∈ wsX6_restore := by decide +kernel
theorem fl218_X6_restore : Cond.fieldLink RX6 218 "LoopMemo" "hasSnapshot" "Z" ∈ wsX6_restore := by decide +kernel
theorem fl25_X6_restore : Cond.fieldLink RX6 25 "LoopMemo" "history" "LLoopMemo$History;" ∈ wsX6_restore := by decide +kernel
theorem fl10_X6_restore : Cond.fieldLink RX6 10 "LoopMemo" "now" "LLoopMemo$State;" ∈ wsX6_restore := by decide +kernel
theorem fl19_X6_restore : Cond.fieldLink RX6 19 "LoopMemo" "snapshot" "LLoopMemo$State;" ∈ wsX6_restore := by decide +kernel
set_option maxRecDepth 100000 in
set_option maxHeartbeats 4000000 in
theorem m_X6_restore (D : va_G) (z zo : ClassId) (l : Launch) (m : Nat → Nat) (a : Nat → Nat → Nat) (h : Nat → Hp)  (r : Int32) (h' : Nat → Hp) (hF : F_X6_restore h  = some (r, h')) : lm_C D z zo l yX6_restore wsX6_restore 5 125 [.ref (m 0)] (lmW z zo m a h) (some (.int r)) (lmW z zo m a h') := by
  refine lm_C.of (by decide) rfl (Nat.le_of_ble_eq_true rfl) (own := RX6) rfl ?_
  intro p e s m_ args below meth c C hr hk hA
  show lm_St p l e ({ frames := 5, cells := 0, slots := 0, locals := 125 }) s m_ args below meth c D (va_A (lmW z zo m a h) s.heap.size) 1 0 0 (lm_End below D (some (.int r)) (lmW z zo m a h) (lmW z zo m a h') args s) false (lmW z zo m a h) 0 [(0, .ref (m 0))] []
  rw [F_X6_restore] at hF
  refine lm_aload_n C dX6_restore_0 rfl 0 rfl rfl ?_
  refine lm_getf C (T := TX6) (N := 9) (v := .int (h 8 0 5)) in6_X6_restore 0 rfl rfl 5 (by decide) fl218_X6_restore rfl rfl dX6_restore_1 rfl ?_
  refine lm_if_ne C (tgt := 10) dX6_restore_4 (by decide) rfl (fun c1 => ?_) (fun c1 => ?_)
  · have hF := lm_brt hF c1
    refine lm_aload_n C dX6_restore_10 rfl 0 rfl rfl ?_
    refine lm_getf C (T := TX6) (N := 9) (v := .ref (m 3)) in6_X6_restore 0 rfl rfl 3 (by decide) fl25_X6_restore rfl rfl dX6_restore_11 rfl ?_
    refine lm_aload_n C dX6_restore_14 rfl 0 rfl rfl ?_
    refine lm_getf C (T := TX6) (N := 9) (v := .ref (a 0 0)) in6_X6_restore 0 rfl rfl 0 (by decide) fl10_X6_restore rfl rfl dX6_restore_15 rfl ?_
    obtain ⟨h2, qh2, hF⟩ := lm_bde hF
    refine lm_callV C (n := 1) (ci := 1) (w' := (lmW z zo m a h2)) hA (m_X1_prepare D z zo l m a h  h2 qh2) gX6_restore_X1_prepare rfl (by decide +kernel) ⟨Nat.le_of_ble_eq_true rfl, Nat.le_of_ble_eq_true rfl⟩ ⟨Nat.le_of_ble_eq_true rfl, Nat.le_of_ble_eq_true rfl⟩ 3 rfl rfl lm_pr lm_pr' rfl rfl (Nat.le_of_ble_eq_true rfl) dX6_restore_18 (st' := []) rfl rfl ?_
    refine lm_aload_n C dX6_restore_21 rfl 0 rfl rfl ?_
    refine lm_getf C (T := TX6) (N := 9) (v := .ref (a 0 0)) in6_X6_restore 0 rfl rfl 0 (by decide) fl10_X6_restore rfl rfl dX6_restore_22 rfl ?_
    refine lm_aload_n C dX6_restore_25 rfl 0 rfl rfl ?_
    refine lm_getf C (T := TX6) (N := 9) (v := .ref (a 2 0)) in6_X6_restore 0 rfl rfl 2 (by decide) fl19_X6_restore rfl rfl dX6_restore_26 rfl ?_
    obtain ⟨τ3, qτ3, hF⟩ := lm_bde hF
    obtain ⟨h4, eh4, hF⟩ := lm_lte hF
    refine lm_callV C (n := 1) (ci := 4) (w' := (lmW z zo m a h4)) hA (m_X4_copyFrom D z zo l (a 0) (a 2) (h2 0) (h2 2) τ3 qτ3) gX6_restore_X4_copyFrom rfl (by decide +kernel) ⟨Nat.le_of_ble_eq_true rfl, Nat.le_of_ble_eq_true rfl⟩ ⟨Nat.le_of_ble_eq_true rfl, Nat.le_of_ble_eq_true rfl⟩ 5 rfl rfl (lm_g0_2 z zo m a h2) (by rw [← eh4]; exact lm_p0_2 z zo m a h2 τ3) rfl rfl (Nat.le_of_ble_eq_true rfl) dX6_restore_29 (st' := []) rfl rfl ?_
    refine lm_aload_n C dX6_restore_32 rfl 0 rfl rfl ?_
    refine lm_getf C (T := TX6) (N := 9) (v := .ref (m 3)) in6_X6_restore 0 rfl rfl 3 (by decide) fl25_X6_restore rfl rfl dX6_restore_33 rfl ?_
    refine lm_aload_n C dX6_restore_36 rfl 0 rfl rfl ?_
    refine lm_getf C (T := TX6) (N := 9) (v := .ref (a 0 0)) in6_X6_restore 0 rfl rfl 0 (by decide) fl10_X6_restore rfl rfl dX6_restore_37 rfl ?_
    refine lm_callVR C (n := 0) (ci := 4) (m_X4_memo_1 D z zo l (a 0) (h4 0)  ) gX6_restore_X4_memo rfl (by decide +kernel) ⟨Nat.le_of_ble_eq_true rfl, Nat.le_of_ble_eq_true rfl⟩ ⟨Nat.le_of_ble_eq_true rfl, Nat.le_of_ble_eq_true rfl⟩ 5 rfl rfl (lm_s0 z zo m a h4) rfl rfl (Nat.le_of_ble_eq_true rfl) dX6_restore_40 (st' := [.ref (a 0 11), .ref (m 3)]) rfl rfl ?_
    obtain ⟨r5, qr5, hF⟩ := lm_bde hF
    refine lm_callVR C (n := 0) (ci := 2) (m_X2_size D z zo l (lm_sh 11 (a 0)) (lm_sh 11 (h4 0))  r5 qr5) gX6_restore_X2_size rfl (by decide +kernel) ⟨Nat.le_of_ble_eq_true rfl, Nat.le_of_ble_eq_true rfl⟩ ⟨Nat.le_of_ble_eq_true rfl, Nat.le_of_ble_eq_true rfl⟩ 16 rfl rfl (fun q hq => lm_s0 z zo m a h4 q (st_s11 z (a 0) (h4 0) q hq)) rfl rfl (Nat.le_of_ble_eq_true rfl) dX6_restore_43 (st' := [.int r5, .ref (m 3)]) rfl rfl ?_
    obtain ⟨r7, h6, qh6, hF⟩ := lm_b2e hF
    refine lm_callV C (n := 1) (ci := 1) (w' := (lmW z zo m a h6)) hA (m_X1_commit D z zo l m a h4 r5 r7 h6 qh6) gX6_restore_X1_commit rfl (by decide +kernel) ⟨Nat.le_of_ble_eq_true rfl, Nat.le_of_ble_eq_true rfl⟩ ⟨Nat.le_of_ble_eq_true rfl, Nat.le_of_ble_eq_true rfl⟩ 3 rfl rfl lm_pr lm_pr' rfl rfl (Nat.le_of_ble_eq_true rfl) dX6_restore_46 (st' := [.int r7]) rfl rfl ?_
    cases hF
    exact lm_iret C hr hk rfl rfl dX6_restore_49
  · have hF := lm_brf hF c1
    refine lm_bipush C (v := (-2 : Int32)) dX6_restore_7 (by decide) rfl ?_
    cases hF
    exact lm_iret C hr hk rfl rfl dX6_restore_9
