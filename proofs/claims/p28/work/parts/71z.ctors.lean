/-! the constructors -/
def ct_z0 : Hp := fun _ _ => 0
def ct_s0 : Hp := fun c => if c = 15 then lm_fsI else fun _ => 0
def ct_h0 : Nat → Hp := fun b => if b = 8 then ct_z0 else ct_s0
def ct_m0 : Hp := fun c => if c = 1 then upd (upd (fun _ => 0) 0 12) 4 99 else fun _ => 0
def lm_l (l : List Nat) : Nat → Nat := fun j => l.getD j 0
def lm_st (h0 : Nat) (u1 u2 u3 u4 : Nat → Nat) (q15 q16 : Nat) : Nat → Nat := fun j => if j < 1 then h0 else if j < 4 then u1 (j - 1) else if j < 7 then u2 (j - 4) else if j < 11 then u3 (j - 7) else if j < 15 then u4 (j - 11) else if j < 16 then q15 else q16
def lm_a5 (v0 v1 v2 v3 v4 : Nat → Nat) : Nat → Nat → Nat := fun k => if k < 1 then v0 else if k < 2 then v1 else if k < 3 then v2 else if k < 4 then v3 else v4
def lm_a8 (v0 v1 v2 : Nat → Nat) (v : Nat → Nat → Nat) : Nat → Nat → Nat := fun k => if k < 1 then v0 else if k < 2 then v1 else if k < 3 then v2 else v (k - 3)
def lm_m5 (h0 : Nat) (up m : Nat → Nat) : Nat → Nat := fun j => if j < 1 then h0 else if j < 3 then up (j - 1) else m (j - 3)
def hiW (z zo : ClassId) (m : Nat → Nat) (a : Nat → Nat → Nat) : va_W := (m 0, .inr (1, [.ref (m 1), .int 0, .int 0])) :: (m 1, .inl (zo, 5, .inr (.inr (.inr (.inr (fun i => some (a i 0))))))) :: (stW z (a 0) ct_s0 ++ (stW z (a 1) ct_s0 ++ (stW z (a 2) ct_s0 ++ (stW z (a 3) ct_s0 ++ (stW z (a 4) ct_s0 ++ [])))))
set_option maxRecDepth 100000 in
set_option maxHeartbeats 4000000 in
theorem n_X5_init (D : va_G) (z zo : ClassId) (l : Launch) : lm_N D z zo l yX5_init wsX5_init 1 20 2 40 5 [.null, .null, .int 0] (fun u : Nat → Nat => tbW z u ct_z0) (fun u => u 0) := by
  refine lm_N.of (by decide) rfl (Nat.le_of_ble_eq_true rfl) (own := RX5) rfl ?_
  intro p e s m args below meth c h0 C hr hk hname hA
  refine lm_aload_n C dX5_init_0 rfl 0 rfl rfl ?_
  refine lm_oinit C (by decide +kernel) (by decide +kernel) (by decide +kernel) (Nat.le_of_ble_eq_true rfl) (Nat.le_of_ble_eq_true rfl) (Nat.le_of_ble_eq_true rfl) dX5_init_1 rfl ?_
  refine lm_aload_n C dX5_init_4 rfl 0 rfl rfl ?_
  refine lm_bipush C (v := (20 : Int32)) dX5_init_5 (by decide) rfl ?_
  refine lm_newa C (N := 20) (ce' := 1) (sl' := 20) hA.1 (by decide +kernel) (by decide) (by decide) (Nat.le_of_ble_eq_true rfl) rfl rfl rfl dX5_init_7 rfl (fun q7 => ?_)
  refine lm_putF C (ci := 5) (T := TX5) (N := 3) (ty := .array .int) (v := .ref q7) (w' := (q7, .inl (z, 20, .inl (fun _ => 0))) :: ((h0, .inr (5, [.ref q7, .null, .int 0])) :: ([]))) hname (by decide +kernel) tyX5 tyX5_ok nmX5 1 rfl rfl 0 (by decide) (by decide +kernel) rfl rfl rfl rfl rfl rfl (Nat.le_of_ble_eq_true rfl) dX5_init_9 rfl rfl ?_
  refine lm_aload_n C dX5_init_12 rfl 0 rfl rfl ?_
  refine lm_bipush C (v := (20 : Int32)) dX5_init_13 (by decide) rfl ?_
  refine lm_newa C (N := 20) (ce' := 2) (sl' := 40) hA.1 (by decide +kernel) (by decide) (by decide) (Nat.le_of_ble_eq_true rfl) rfl rfl rfl dX5_init_15 rfl (fun q15 => ?_)
  refine lm_putF C (ci := 5) (T := TX5) (N := 3) (ty := .array .int) (v := .ref q15) (w' := (q15, .inl (z, 20, .inl (fun _ => 0))) :: ((q7, .inl (z, 20, .inl (fun _ => 0))) :: ((h0, .inr (5, [.ref q7, .ref q15, .int 0])) :: ([])))) hname (by decide +kernel) tyX5 tyX5_ok nmX5 2 rfl rfl 1 (by decide) (by decide +kernel) rfl rfl rfl rfl rfl rfl (Nat.le_of_ble_eq_true rfl) dX5_init_17 rfl rfl ?_
  have e9 : tbW z (lm_l [h0, q7, q15]) ct_z0 = (h0, .inr (5, [.ref q7, .ref q15, .int 0])) :: ((q7, .inl (z, 20, .inl (fun _ => 0))) :: ((q15, .inl (z, 20, .inl (fun _ => 0))) :: ([]))) := rfl
  refine lm_nret C hr hk (lm_l [h0, q7, q15]) rfl ?_ dX5_init_20
  show List.Perm (((q15, .inl (z, 20, .inl (fun _ => 0))) :: ((q7, .inl (z, 20, .inl (fun _ => 0))) :: ((h0, .inr (5, [.ref q7, .ref q15, .int 0])) :: ([])))) : va_W) (tbW z (lm_l [h0, q7, q15]) ct_z0)
  rw [e9]
  refine lm_cnt fun f g h1 h2 h3 => ?_
  simp only [h1, h2, h3]
  omega
set_option maxRecDepth 100000 in
set_option maxHeartbeats 4000000 in
theorem n_X0_init (D : va_G) (z zo : ClassId) (l : Launch) : lm_N D z zo l yX0_init wsX0_init 1 20 3 30 0 [.null, .null, .null] (fun u : Nat → Nat => anW z u ct_z0) (fun u => u 0) := by
  refine lm_N.of (by decide) rfl (Nat.le_of_ble_eq_true rfl) (own := RX0) rfl ?_
  intro p e s m args below meth c h0 C hr hk hname hA
  refine lm_aload_n C dX0_init_0 rfl 0 rfl rfl ?_
  refine lm_oinit C (by decide +kernel) (by decide +kernel) (by decide +kernel) (Nat.le_of_ble_eq_true rfl) (Nat.le_of_ble_eq_true rfl) (Nat.le_of_ble_eq_true rfl) dX0_init_1 rfl ?_
  refine lm_aload_n C dX0_init_4 rfl 0 rfl rfl ?_
  refine lm_bipush C (v := (10 : Int32)) dX0_init_5 (by decide) rfl ?_
  refine lm_newa C (N := 10) (ce' := 1) (sl' := 10) hA.1 (by decide +kernel) (by decide) (by decide) (Nat.le_of_ble_eq_true rfl) rfl rfl rfl dX0_init_7 rfl (fun q7 => ?_)
  refine lm_putF C (ci := 0) (T := TX0) (N := 3) (ty := .array .int) (v := .ref q7) (w' := (q7, .inl (z, 10, .inl (fun _ => 0))) :: ((h0, .inr (0, [.ref q7, .null, .null])) :: ([]))) hname (by decide +kernel) tyX0 tyX0_ok nmX0 1 rfl rfl 0 (by decide) (by decide +kernel) rfl rfl rfl rfl rfl rfl (Nat.le_of_ble_eq_true rfl) dX0_init_9 rfl rfl ?_
  refine lm_aload_n C dX0_init_12 rfl 0 rfl rfl ?_
  refine lm_bipush C (v := (10 : Int32)) dX0_init_13 (by decide) rfl ?_
  refine lm_newa C (N := 10) (ce' := 2) (sl' := 20) hA.1 (by decide +kernel) (by decide) (by decide) (Nat.le_of_ble_eq_true rfl) rfl rfl rfl dX0_init_15 rfl (fun q15 => ?_)
  refine lm_putF C (ci := 0) (T := TX0) (N := 3) (ty := .array .int) (v := .ref q15) (w' := (q15, .inl (z, 10, .inl (fun _ => 0))) :: ((q7, .inl (z, 10, .inl (fun _ => 0))) :: ((h0, .inr (0, [.ref q7, .ref q15, .null])) :: ([])))) hname (by decide +kernel) tyX0 tyX0_ok nmX0 2 rfl rfl 1 (by decide) (by decide +kernel) rfl rfl rfl rfl rfl rfl (Nat.le_of_ble_eq_true rfl) dX0_init_17 rfl rfl ?_
  refine lm_aload_n C dX0_init_20 rfl 0 rfl rfl ?_
  refine lm_bipush C (v := (10 : Int32)) dX0_init_21 (by decide) rfl ?_
  refine lm_newa C (N := 10) (ce' := 3) (sl' := 30) hA.1 (by decide +kernel) (by decide) (by decide) (Nat.le_of_ble_eq_true rfl) rfl rfl rfl dX0_init_23 rfl (fun q23 => ?_)
  refine lm_putF C (ci := 0) (T := TX0) (N := 3) (ty := .array .int) (v := .ref q23) (w' := (q23, .inl (z, 10, .inl (fun _ => 0))) :: ((q15, .inl (z, 10, .inl (fun _ => 0))) :: ((q7, .inl (z, 10, .inl (fun _ => 0))) :: ((h0, .inr (0, [.ref q7, .ref q15, .ref q23])) :: ([]))))) hname (by decide +kernel) tyX0 tyX0_ok nmX0 3 rfl rfl 2 (by decide) (by decide +kernel) rfl rfl rfl rfl rfl rfl (Nat.le_of_ble_eq_true rfl) dX0_init_25 rfl rfl ?_
  have e9 : anW z (lm_l [h0, q7, q15, q23]) ct_z0 = (h0, .inr (0, [.ref q7, .ref q15, .ref q23])) :: ((q7, .inl (z, 10, .inl (fun _ => 0))) :: ((q15, .inl (z, 10, .inl (fun _ => 0))) :: ((q23, .inl (z, 10, .inl (fun _ => 0))) :: ([])))) := rfl
  refine lm_nret C hr hk (lm_l [h0, q7, q15, q23]) rfl ?_ dX0_init_28
  show List.Perm (((q23, .inl (z, 10, .inl (fun _ => 0))) :: ((q15, .inl (z, 10, .inl (fun _ => 0))) :: ((q7, .inl (z, 10, .inl (fun _ => 0))) :: ((h0, .inr (0, [.ref q7, .ref q15, .ref q23])) :: ([]))))) : va_W) (anW z (lm_l [h0, q7, q15, q23]) ct_z0)
  rw [e9]
  refine lm_cnt fun f g h1 h2 h3 => ?_
  simp only [h1, h2, h3]
  omega
set_option maxRecDepth 100000 in
set_option maxHeartbeats 4000000 in
theorem n_X2_init (D : va_G) (z zo : ClassId) (l : Launch) : lm_N D z zo l yX2_init wsX2_init 1 20 3 30 2 [.null, .null, .null, .int 0] (fun u : Nat → Nat => meW z u ct_z0) (fun u => u 0) := by
  refine lm_N.of (by decide) rfl (Nat.le_of_ble_eq_true rfl) (own := RX2) rfl ?_
  intro p e s m args below meth c h0 C hr hk hname hA
  refine lm_aload_n C dX2_init_0 rfl 0 rfl rfl ?_
  refine lm_oinit C (by decide +kernel) (by decide +kernel) (by decide +kernel) (Nat.le_of_ble_eq_true rfl) (Nat.le_of_ble_eq_true rfl) (Nat.le_of_ble_eq_true rfl) dX2_init_1 rfl ?_
  refine lm_aload_n C dX2_init_4 rfl 0 rfl rfl ?_
  refine lm_bipush C (v := (10 : Int32)) dX2_init_5 (by decide) rfl ?_
  refine lm_newa C (N := 10) (ce' := 1) (sl' := 10) hA.1 (by decide +kernel) (by decide) (by decide) (Nat.le_of_ble_eq_true rfl) rfl rfl rfl dX2_init_7 rfl (fun q7 => ?_)
  refine lm_putF C (ci := 2) (T := TX2) (N := 4) (ty := .array .int) (v := .ref q7) (w' := (q7, .inl (z, 10, .inl (fun _ => 0))) :: ((h0, .inr (2, [.ref q7, .null, .null, .int 0])) :: ([]))) hname (by decide +kernel) tyX2 tyX2_ok nmX2 1 rfl rfl 0 (by decide) (by decide +kernel) rfl rfl rfl rfl rfl rfl (Nat.le_of_ble_eq_true rfl) dX2_init_9 rfl rfl ?_
  refine lm_aload_n C dX2_init_12 rfl 0 rfl rfl ?_
  refine lm_bipush C (v := (10 : Int32)) dX2_init_13 (by decide) rfl ?_
  refine lm_newa C (N := 10) (ce' := 2) (sl' := 20) hA.1 (by decide +kernel) (by decide) (by decide) (Nat.le_of_ble_eq_true rfl) rfl rfl rfl dX2_init_15 rfl (fun q15 => ?_)
  refine lm_putF C (ci := 2) (T := TX2) (N := 4) (ty := .array .int) (v := .ref q15) (w' := (q15, .inl (z, 10, .inl (fun _ => 0))) :: ((q7, .inl (z, 10, .inl (fun _ => 0))) :: ((h0, .inr (2, [.ref q7, .ref q15, .null, .int 0])) :: ([])))) hname (by decide +kernel) tyX2 tyX2_ok nmX2 2 rfl rfl 1 (by decide) (by decide +kernel) rfl rfl rfl rfl rfl rfl (Nat.le_of_ble_eq_true rfl) dX2_init_17 rfl rfl ?_
  refine lm_aload_n C dX2_init_20 rfl 0 rfl rfl ?_
  refine lm_bipush C (v := (10 : Int32)) dX2_init_21 (by decide) rfl ?_
  refine lm_newa C (N := 10) (ce' := 3) (sl' := 30) hA.1 (by decide +kernel) (by decide) (by decide) (Nat.le_of_ble_eq_true rfl) rfl rfl rfl dX2_init_23 rfl (fun q23 => ?_)
  refine lm_putF C (ci := 2) (T := TX2) (N := 4) (ty := .array .int) (v := .ref q23) (w' := (q23, .inl (z, 10, .inl (fun _ => 0))) :: ((q15, .inl (z, 10, .inl (fun _ => 0))) :: ((q7, .inl (z, 10, .inl (fun _ => 0))) :: ((h0, .inr (2, [.ref q7, .ref q15, .ref q23, .int 0])) :: ([]))))) hname (by decide +kernel) tyX2 tyX2_ok nmX2 3 rfl rfl 2 (by decide) (by decide +kernel) rfl rfl rfl rfl rfl rfl (Nat.le_of_ble_eq_true rfl) dX2_init_25 rfl rfl ?_
  have e9 : meW z (lm_l [h0, q7, q15, q23]) ct_z0 = (h0, .inr (2, [.ref q7, .ref q15, .ref q23, .int 0])) :: ((q7, .inl (z, 10, .inl (fun _ => 0))) :: ((q15, .inl (z, 10, .inl (fun _ => 0))) :: ((q23, .inl (z, 10, .inl (fun _ => 0))) :: ([])))) := rfl
  refine lm_nret C hr hk (lm_l [h0, q7, q15, q23]) rfl ?_ dX2_init_28
  show List.Perm (((q23, .inl (z, 10, .inl (fun _ => 0))) :: ((q15, .inl (z, 10, .inl (fun _ => 0))) :: ((q7, .inl (z, 10, .inl (fun _ => 0))) :: ((h0, .inr (2, [.ref q7, .ref q15, .ref q23, .int 0])) :: ([]))))) : va_W) (meW z (lm_l [h0, q7, q15, q23]) ct_z0)
  rw [e9]
  refine lm_cnt fun f g h1 h2 h3 => ?_
  simp only [h1, h2, h3]
  omega
set_option maxRecDepth 100000 in
set_option maxHeartbeats 4000000 in
theorem n_X3_init (D : va_G) (z zo : ClassId) (l : Launch) : lm_N D z zo l yX3_init wsX3_init 1 20 1 60 3 [.null, .int 0, .int 0, .int 0, .int 0, .int 0, .int 0, .int 0, .int 0] (fun u : Nat → Nat => pdW z u ct_z0) (fun u => u 0) := by
  refine lm_N.of (by decide) rfl (Nat.le_of_ble_eq_true rfl) (own := RX3) rfl ?_
  intro p e s m args below meth c h0 C hr hk hname hA
  refine lm_aload_n C dX3_init_0 rfl 0 rfl rfl ?_
  refine lm_oinit C (by decide +kernel) (by decide +kernel) (by decide +kernel) (Nat.le_of_ble_eq_true rfl) (Nat.le_of_ble_eq_true rfl) (Nat.le_of_ble_eq_true rfl) dX3_init_1 rfl ?_
  refine lm_aload_n C dX3_init_4 rfl 0 rfl rfl ?_
  refine lm_bipush C (v := (60 : Int32)) dX3_init_5 (by decide) rfl ?_
  refine lm_newa C (N := 60) (ce' := 1) (sl' := 60) hA.1 (by decide +kernel) (by decide) (by decide) (Nat.le_of_ble_eq_true rfl) rfl rfl rfl dX3_init_7 rfl (fun q7 => ?_)
  refine lm_putF C (ci := 3) (T := TX3) (N := 9) (ty := .array .int) (v := .ref q7) (w' := (q7, .inl (z, 60, .inl (fun _ => 0))) :: ((h0, .inr (3, [.ref q7, .int 0, .int 0, .int 0, .int 0, .int 0, .int 0, .int 0, .int 0])) :: ([]))) hname (by decide +kernel) tyX3 tyX3_ok nmX3 1 rfl rfl 0 (by decide) (by decide +kernel) rfl rfl rfl rfl rfl rfl (Nat.le_of_ble_eq_true rfl) dX3_init_9 rfl rfl ?_
  have e9 : pdW z (lm_l [h0, q7]) ct_z0 = (h0, .inr (3, [.ref q7, .int 0, .int 0, .int 0, .int 0, .int 0, .int 0, .int 0, .int 0])) :: ((q7, .inl (z, 60, .inl (fun _ => 0))) :: ([])) := rfl
  refine lm_nret C hr hk (lm_l [h0, q7]) rfl ?_ dX3_init_12
  show List.Perm (((q7, .inl (z, 60, .inl (fun _ => 0))) :: ((h0, .inr (3, [.ref q7, .int 0, .int 0, .int 0, .int 0, .int 0, .int 0, .int 0, .int 0])) :: ([]))) : va_W) (pdW z (lm_l [h0, q7]) ct_z0)
  rw [e9]
  refine lm_cnt fun f g h1 h2 h3 => ?_
  simp only [h1, h2, h3]
  omega
set_option maxRecDepth 100000 in
set_option maxHeartbeats 4000000 in
theorem n_X4_init (D : va_G) (z zo : ClassId) (l : Launch) : lm_N D z zo l yX4_init wsX4_init 2 40 16 165 4 [.null, .null, .null, .null, .null, .null, .int 0, .int 0] (fun u : Nat → Nat => stW z u ct_s0) (fun u => u 0) := by
  refine lm_N.of (by decide) rfl (Nat.le_of_ble_eq_true rfl) (own := RX4) rfl ?_
  intro p e s m args below meth c h0 C hr hk hname hA
  refine lm_aload_n C dX4_init_0 rfl 0 rfl rfl ?_
  refine lm_oinit C (by decide +kernel) (by decide +kernel) (by decide +kernel) (Nat.le_of_ble_eq_true rfl) (Nat.le_of_ble_eq_true rfl) (Nat.le_of_ble_eq_true rfl) dX4_init_1 rfl ?_
  refine lm_aload_n C dX4_init_4 rfl 0 rfl rfl ?_
  refine lm_new C (ci := 5) (fs := [.null, .null, .int 0]) (T := TX5) (N := 3) (ce' := 1) (sl' := 3) hA.1 (by decide +kernel) tyX5 tyX5_ok (by decide +kernel) (by decide +kernel) (by decide +kernel) rfl (fun j hj => match j, hj with | 0, _ => rfl | 1, _ => rfl | 2, _ => rfl | n + 3, h => absurd h (by omega)) rfl rfl rfl dX4_init_5 rfl (fun q5 => ?_)
  refine lm_dup C dX4_init_8 rfl rfl ?_
  refine lm_callI C (ce' := 3) (sl' := 43) hA (n_X5_init D z zo l) gX4_init_X5_init rfl (by decide +kernel) (by decide +kernel) (by decide +kernel) rfl (by decide +kernel) ⟨Nat.le_of_ble_eq_true rfl, Nat.le_of_ble_eq_true rfl⟩ rfl rfl rfl (List.Perm.refl _) (Nat.le_of_ble_eq_true rfl) dX4_init_9 rfl (fun u9 hu9 => ?_)
  subst hu9
  try dsimp only
  refine lm_putF C (ci := 4) (T := TX4) (N := 8) (ty := .object "LoopMemo$Table") (v := .ref (u9 0)) (w' := tbW z u9 ct_z0 ++ ((h0, .inr (4, [.ref (u9 0), .null, .null, .null, .null, .null, .int 0, .int 0])) :: ([]))) hname (by decide +kernel) tyX4 tyX4_ok nmX4 3 rfl rfl 0 (by decide) (by decide +kernel) rfl rfl rfl rfl rfl rfl (Nat.le_of_ble_eq_true rfl) dX4_init_12 rfl rfl ?_
  refine lm_aload_n C dX4_init_15 rfl 0 rfl rfl ?_
  refine lm_new C (ci := 5) (fs := [.null, .null, .int 0]) (T := TX5) (N := 3) (ce' := 4) (sl' := 46) hA.1 (by decide +kernel) tyX5 tyX5_ok (by decide +kernel) (by decide +kernel) (by decide +kernel) rfl (fun j hj => match j, hj with | 0, _ => rfl | 1, _ => rfl | 2, _ => rfl | n + 3, h => absurd h (by omega)) rfl rfl rfl dX4_init_16 rfl (fun q16 => ?_)
  refine lm_dup C dX4_init_19 rfl rfl ?_
  refine lm_callI C (ce' := 6) (sl' := 86) hA (n_X5_init D z zo l) gX4_init_X5_init rfl (by decide +kernel) (by decide +kernel) (by decide +kernel) rfl (by decide +kernel) ⟨Nat.le_of_ble_eq_true rfl, Nat.le_of_ble_eq_true rfl⟩ rfl rfl rfl (List.Perm.refl _) (Nat.le_of_ble_eq_true rfl) dX4_init_20 rfl (fun u20 hu20 => ?_)
  subst hu20
  try dsimp only
  refine lm_putF C (ci := 4) (T := TX4) (N := 8) (ty := .object "LoopMemo$Table") (v := .ref (u20 0)) (w' := tbW z u20 ct_z0 ++ (tbW z u9 ct_z0 ++ ((h0, .inr (4, [.ref (u9 0), .ref (u20 0), .null, .null, .null, .null, .int 0, .int 0])) :: ([])))) hname (by decide +kernel) tyX4 tyX4_ok nmX4 6 rfl rfl 1 (by decide) (by decide +kernel) rfl rfl rfl rfl rfl rfl (Nat.le_of_ble_eq_true rfl) dX4_init_23 rfl rfl ?_
  refine lm_aload_n C dX4_init_26 rfl 0 rfl rfl ?_
  refine lm_new C (ci := 0) (fs := [.null, .null, .null]) (T := TX0) (N := 3) (ce' := 7) (sl' := 89) hA.1 (by decide +kernel) tyX0 tyX0_ok (by decide +kernel) (by decide +kernel) (by decide +kernel) rfl (fun j hj => match j, hj with | 0, _ => rfl | 1, _ => rfl | 2, _ => rfl | n + 3, h => absurd h (by omega)) rfl rfl rfl dX4_init_27 rfl (fun q27 => ?_)
  refine lm_dup C dX4_init_30 rfl rfl ?_
  refine lm_callI C (ce' := 10) (sl' := 119) hA (n_X0_init D z zo l) gX4_init_X0_init rfl (by decide +kernel) (by decide +kernel) (by decide +kernel) rfl (by decide +kernel) ⟨Nat.le_of_ble_eq_true rfl, Nat.le_of_ble_eq_true rfl⟩ rfl rfl rfl (List.Perm.refl _) (Nat.le_of_ble_eq_true rfl) dX4_init_31 rfl (fun u31 hu31 => ?_)
  subst hu31
  try dsimp only
  refine lm_putF C (ci := 4) (T := TX4) (N := 8) (ty := .object "LoopMemo$Answers") (v := .ref (u31 0)) (w' := anW z u31 ct_z0 ++ (tbW z u20 ct_z0 ++ (tbW z u9 ct_z0 ++ ((h0, .inr (4, [.ref (u9 0), .ref (u20 0), .ref (u31 0), .null, .null, .null, .int 0, .int 0])) :: ([]))))) hname (by decide +kernel) tyX4 tyX4_ok nmX4 10 rfl rfl 2 (by decide) (by decide +kernel) rfl rfl rfl rfl rfl rfl (Nat.le_of_ble_eq_true rfl) dX4_init_34 rfl rfl ?_
  refine lm_aload_n C dX4_init_37 rfl 0 rfl rfl ?_
  refine lm_new C (ci := 2) (fs := [.null, .null, .null, .int 0]) (T := TX2) (N := 4) (ce' := 11) (sl' := 123) hA.1 (by decide +kernel) tyX2 tyX2_ok (by decide +kernel) (by decide +kernel) (by decide +kernel) rfl (fun j hj => match j, hj with | 0, _ => rfl | 1, _ => rfl | 2, _ => rfl | 3, _ => rfl | n + 4, h => absurd h (by omega)) rfl rfl rfl dX4_init_38 rfl (fun q38 => ?_)
  refine lm_dup C dX4_init_41 rfl rfl ?_
  refine lm_callI C (ce' := 14) (sl' := 153) hA (n_X2_init D z zo l) gX4_init_X2_init rfl (by decide +kernel) (by decide +kernel) (by decide +kernel) rfl (by decide +kernel) ⟨Nat.le_of_ble_eq_true rfl, Nat.le_of_ble_eq_true rfl⟩ rfl rfl rfl (List.Perm.refl _) (Nat.le_of_ble_eq_true rfl) dX4_init_42 rfl (fun u42 hu42 => ?_)
  subst hu42
  try dsimp only
  refine lm_putF C (ci := 4) (T := TX4) (N := 8) (ty := .object "LoopMemo$Memo") (v := .ref (u42 0)) (w' := meW z u42 ct_z0 ++ (anW z u31 ct_z0 ++ (tbW z u20 ct_z0 ++ (tbW z u9 ct_z0 ++ ((h0, .inr (4, [.ref (u9 0), .ref (u20 0), .ref (u31 0), .ref (u42 0), .null, .null, .int 0, .int 0])) :: ([])))))) hname (by decide +kernel) tyX4 tyX4_ok nmX4 14 rfl rfl 3 (by decide) (by decide +kernel) rfl rfl rfl rfl rfl rfl (Nat.le_of_ble_eq_true rfl) dX4_init_45 rfl rfl ?_
  refine lm_aload_n C dX4_init_48 rfl 0 rfl rfl ?_
  refine lm_getsF C hA (by decide +kernel) dX4_init_49 rfl (fun t49 cell hc1 hc2 hc3 hc4 hc5 hc6 => ?_)
  refine lm_clone C (ce' := 15) (sl' := 158) hA hc1 hc2 hc3 hc4 hc5 hc6 (by decide +kernel) (by decide +kernel) (by decide +kernel) (by decide +kernel) (by decide +kernel) (Nat.le_of_ble_eq_true rfl) (Nat.le_of_ble_eq_true rfl) (Nat.le_of_ble_eq_true rfl) rfl rfl rfl dX4_init_52 rfl (fun q52 => ?_)
  refine lm_castA C (by decide +kernel) 0 rfl dX4_init_55 rfl ?_
  refine lm_putF C (ci := 4) (T := TX4) (N := 8) (ty := .array .int) (v := .ref q52) (w' := (q52, .inl (z, 5, .inl (lm_fsI))) :: (meW z u42 ct_z0 ++ (anW z u31 ct_z0 ++ (tbW z u20 ct_z0 ++ (tbW z u9 ct_z0 ++ ((h0, .inr (4, [.ref (u9 0), .ref (u20 0), .ref (u31 0), .ref (u42 0), .ref q52, .null, .int 0, .int 0])) :: ([]))))))) hname (by decide +kernel) tyX4 tyX4_ok nmX4 15 rfl rfl 4 (by decide) (by decide +kernel) rfl rfl rfl rfl rfl rfl (Nat.le_of_ble_eq_true rfl) dX4_init_58 rfl rfl ?_
  refine lm_aload_n C dX4_init_61 rfl 0 rfl rfl ?_
  refine lm_bipush C (v := (7 : Int32)) dX4_init_62 (by decide) rfl ?_
  refine lm_newa C (N := 7) (ce' := 16) (sl' := 165) hA.1 (by decide +kernel) (by decide) (by decide) (Nat.le_of_ble_eq_true rfl) rfl rfl rfl dX4_init_64 rfl (fun q64 => ?_)
  refine lm_putF C (ci := 4) (T := TX4) (N := 8) (ty := .array .int) (v := .ref q64) (w' := (q64, .inl (z, 7, .inl (fun _ => 0))) :: ((q52, .inl (z, 5, .inl (lm_fsI))) :: (meW z u42 ct_z0 ++ (anW z u31 ct_z0 ++ (tbW z u20 ct_z0 ++ (tbW z u9 ct_z0 ++ ((h0, .inr (4, [.ref (u9 0), .ref (u20 0), .ref (u31 0), .ref (u42 0), .ref q52, .ref q64, .int 0, .int 0])) :: ([])))))))) hname (by decide +kernel) tyX4 tyX4_ok nmX4 16 rfl rfl 5 (by decide) (by decide +kernel) rfl rfl rfl rfl rfl rfl (Nat.le_of_ble_eq_true rfl) dX4_init_66 rfl rfl ?_
  have e9 : stW z (lm_st h0 u9 u20 u31 u42 q52 q64) ct_s0 = (h0, .inr (4, [.ref (u9 0), .ref (u20 0), .ref (u31 0), .ref (u42 0), .ref q52, .ref q64, .int 0, .int 0])) :: (tbW z u9 ct_z0 ++ (tbW z u20 ct_z0 ++ (anW z u31 ct_z0 ++ (meW z u42 ct_z0 ++ ((q52, .inl (z, 5, .inl (lm_fsI))) :: ((q64, .inl (z, 7, .inl (fun _ => 0))) :: ([]))))))) := rfl
  refine lm_nret C hr hk (lm_st h0 u9 u20 u31 u42 q52 q64) rfl ?_ dX4_init_69
  show List.Perm (((q64, .inl (z, 7, .inl (fun _ => 0))) :: ((q52, .inl (z, 5, .inl (lm_fsI))) :: (meW z u42 ct_z0 ++ (anW z u31 ct_z0 ++ (tbW z u20 ct_z0 ++ (tbW z u9 ct_z0 ++ ((h0, .inr (4, [.ref (u9 0), .ref (u20 0), .ref (u31 0), .ref (u42 0), .ref q52, .ref q64, .int 0, .int 0])) :: ([])))))))) : va_W) (stW z (lm_st h0 u9 u20 u31 u42 q52 q64) ct_s0)
  rw [e9]
  refine lm_cnt fun f g h1 h2 h3 => ?_
  simp only [h1, h2, h3]
  omega
set_option maxRecDepth 100000 in
set_option maxHeartbeats 4000000 in
theorem n_X1_init (D : va_G) (z zo : ClassId) (l : Launch) : lm_N D z zo l yX1_init wsX1_init 3 60 86 870 1 [.null, .int 0, .int 0] (fun u : (Nat → Nat) × (Nat → Nat → Nat) => hiW z zo u.1 u.2) (fun u => u.1 0) := by
  refine lm_N.of (by decide) rfl (Nat.le_of_ble_eq_true rfl) (own := RX1) rfl ?_
  intro p e s m args below meth c h0 C hr hk hname hA
  refine lm_aload_n C dX1_init_0 rfl 0 rfl rfl ?_
  refine lm_oinit C (by decide +kernel) (by decide +kernel) (by decide +kernel) (Nat.le_of_ble_eq_true rfl) (Nat.le_of_ble_eq_true rfl) (Nat.le_of_ble_eq_true rfl) dX1_init_1 rfl ?_
  refine lm_aload_n C dX1_init_4 rfl 0 rfl rfl ?_
  refine lm_iconst C (v := (5 : Int32)) dX1_init_5 (by decide) rfl ?_
  refine lm_newq C (N := 5) (ce' := 1) (sl' := 5) hA.1 hA.2.2 (by decide +kernel) (by decide) (by decide) (Nat.le_of_ble_eq_true rfl) rfl rfl rfl dX1_init_6 rfl (fun q6 => ?_)
  refine lm_putF C (ci := 1) (T := TX1) (N := 3) (ty := .array (.object "LoopMemo$State")) (v := .ref q6) (w' := (q6, .inl (zo, 5, .inr (.inr (.inr (.inr (fun _ => none)))))) :: ((h0, .inr (1, [.ref q6, .int 0, .int 0])) :: ([]))) hname (by decide +kernel) tyX1 tyX1_ok nmX1 1 rfl rfl 0 (by decide) (by decide +kernel) rfl rfl rfl rfl rfl rfl (Nat.le_of_ble_eq_true rfl) dX1_init_9 rfl rfl ?_
  refine lm_iconst C (v := (0 : Int32)) dX1_init_12 (by decide) rfl ?_
  refine lm_istore_n (lv' := [(1, .int 0), (0, .ref h0)]) C dX1_init_13 rfl (by decide) rfl [0, 1] rfl rfl ?_
  refine lm_iload_n C dX1_init_14 rfl 0 rfl rfl ?_
  refine lm_iconst C (v := (5 : Int32)) dX1_init_15 (by decide) rfl ?_
  refine lm_icmp_ge C (tgt := 38) dX1_init_16 (by decide) rfl (fun c1 => ?_) (fun c1 => ?_)
  · exact absurd c1 (by decide)
  refine lm_aload_n C dX1_init_19 rfl 1 rfl rfl ?_
  refine lm_getf C (T := TX1) (N := 3) (v := .ref q6) (by decide +kernel) 1 rfl rfl 0 (by decide) (by decide +kernel) rfl rfl dX1_init_20 rfl ?_
  refine lm_iload_n C dX1_init_23 rfl 0 rfl rfl ?_
  refine lm_new C (ci := 4) (fs := [.null, .null, .null, .null, .null, .null, .int 0, .int 0]) (T := TX4) (N := 8) (ce' := 2) (sl' := 13) hA.1 (by decide +kernel) tyX4 tyX4_ok (by decide +kernel) (by decide +kernel) (by decide +kernel) rfl (fun j hj => match j, hj with | 0, _ => rfl | 1, _ => rfl | 2, _ => rfl | 3, _ => rfl | 4, _ => rfl | 5, _ => rfl | 6, _ => rfl | 7, _ => rfl | n + 8, h => absurd h (by omega)) rfl rfl rfl dX1_init_24 rfl (fun q24 => ?_)
  refine lm_dup C dX1_init_27 rfl rfl ?_
  refine lm_callI C (ce' := 18) (sl' := 178) hA (n_X4_init D z zo l) gX1_init_X4_init rfl (by decide +kernel) (by decide +kernel) (by decide +kernel) rfl (by decide +kernel) ⟨Nat.le_of_ble_eq_true rfl, Nat.le_of_ble_eq_true rfl⟩ rfl rfl rfl (List.Perm.refl _) (Nat.le_of_ble_eq_true rfl) dX1_init_28 rfl (fun u28 hu28 => ?_)
  subst hu28
  try dsimp only
  refine lm_astq C 17 0 (w' := stW z u28 ct_s0 ++ ((q6, .inl (zo, 5, .inr (.inr (.inr (.inr (va_up (fun _ => none) 0 (some (u28 0)))))))) :: ((h0, .inr (1, [.ref q6, .int 0, .int 0])) :: ([])))) rfl rfl (by unfold vp_in; decide) dX1_init_31 rfl rfl ?_
  refine lm_iinc (lv' := [(1, .int 1), (0, .ref h0)]) C (1 : Int32) dX1_init_32 0 rfl (by decide) (by decide) rfl [0, 1] rfl rfl ?_
  refine lm_goto C (tgt := 14) dX1_init_35 (by decide) ?_
  obtain ⟨v0, ev0⟩ : ∃ v, v = u28 := ⟨_, rfl⟩
  rw [← ev0]
  clear ev0 u28
  refine lm_iload_n C dX1_init_14 rfl 0 rfl rfl ?_
  refine lm_iconst C (v := (5 : Int32)) dX1_init_15 (by decide) rfl ?_
  refine lm_icmp_ge C (tgt := 38) dX1_init_16 (by decide) rfl (fun c2 => ?_) (fun c2 => ?_)
  · exact absurd c2 (by decide)
  refine lm_aload_n C dX1_init_19 rfl 1 rfl rfl ?_
  refine lm_getf C (T := TX1) (N := 3) (v := .ref q6) (by decide +kernel) 18 rfl rfl 0 (by decide) (by decide +kernel) rfl rfl dX1_init_20 rfl ?_
  refine lm_iload_n C dX1_init_23 rfl 0 rfl rfl ?_
  refine lm_new C (ci := 4) (fs := [.null, .null, .null, .null, .null, .null, .int 0, .int 0]) (T := TX4) (N := 8) (ce' := 19) (sl' := 186) hA.1 (by decide +kernel) tyX4 tyX4_ok (by decide +kernel) (by decide +kernel) (by decide +kernel) rfl (fun j hj => match j, hj with | 0, _ => rfl | 1, _ => rfl | 2, _ => rfl | 3, _ => rfl | 4, _ => rfl | 5, _ => rfl | 6, _ => rfl | 7, _ => rfl | n + 8, h => absurd h (by omega)) rfl rfl rfl dX1_init_24 rfl (fun q24 => ?_)
  refine lm_dup C dX1_init_27 rfl rfl ?_
  refine lm_callI C (ce' := 35) (sl' := 351) hA (n_X4_init D z zo l) gX1_init_X4_init rfl (by decide +kernel) (by decide +kernel) (by decide +kernel) rfl (by decide +kernel) ⟨Nat.le_of_ble_eq_true rfl, Nat.le_of_ble_eq_true rfl⟩ rfl rfl rfl (List.Perm.refl _) (Nat.le_of_ble_eq_true rfl) dX1_init_28 rfl (fun u28 hu28 => ?_)
  subst hu28
  try dsimp only
  refine lm_astq C 34 0 (w' := stW z u28 ct_s0 ++ (stW z v0 ct_s0 ++ ((q6, .inl (zo, 5, .inr (.inr (.inr (.inr (va_up (va_up (fun _ => none) 0 (some (v0 0))) 1 (some (u28 0)))))))) :: ((h0, .inr (1, [.ref q6, .int 0, .int 0])) :: ([]))))) rfl rfl (by unfold vp_in; decide) dX1_init_31 rfl rfl ?_
  refine lm_iinc (lv' := [(1, .int 2), (0, .ref h0)]) C (2 : Int32) dX1_init_32 0 rfl (by decide) (by decide) rfl [0, 1] rfl rfl ?_
  refine lm_goto C (tgt := 14) dX1_init_35 (by decide) ?_
  obtain ⟨v1, ev1⟩ : ∃ v, v = u28 := ⟨_, rfl⟩
  rw [← ev1]
  clear ev1 u28
  refine lm_iload_n C dX1_init_14 rfl 0 rfl rfl ?_
  refine lm_iconst C (v := (5 : Int32)) dX1_init_15 (by decide) rfl ?_
  refine lm_icmp_ge C (tgt := 38) dX1_init_16 (by decide) rfl (fun c3 => ?_) (fun c3 => ?_)
  · exact absurd c3 (by decide)
  refine lm_aload_n C dX1_init_19 rfl 1 rfl rfl ?_
  refine lm_getf C (T := TX1) (N := 3) (v := .ref q6) (by decide +kernel) 35 rfl rfl 0 (by decide) (by decide +kernel) rfl rfl dX1_init_20 rfl ?_
  refine lm_iload_n C dX1_init_23 rfl 0 rfl rfl ?_
  refine lm_new C (ci := 4) (fs := [.null, .null, .null, .null, .null, .null, .int 0, .int 0]) (T := TX4) (N := 8) (ce' := 36) (sl' := 359) hA.1 (by decide +kernel) tyX4 tyX4_ok (by decide +kernel) (by decide +kernel) (by decide +kernel) rfl (fun j hj => match j, hj with | 0, _ => rfl | 1, _ => rfl | 2, _ => rfl | 3, _ => rfl | 4, _ => rfl | 5, _ => rfl | 6, _ => rfl | 7, _ => rfl | n + 8, h => absurd h (by omega)) rfl rfl rfl dX1_init_24 rfl (fun q24 => ?_)
  refine lm_dup C dX1_init_27 rfl rfl ?_
  refine lm_callI C (ce' := 52) (sl' := 524) hA (n_X4_init D z zo l) gX1_init_X4_init rfl (by decide +kernel) (by decide +kernel) (by decide +kernel) rfl (by decide +kernel) ⟨Nat.le_of_ble_eq_true rfl, Nat.le_of_ble_eq_true rfl⟩ rfl rfl rfl (List.Perm.refl _) (Nat.le_of_ble_eq_true rfl) dX1_init_28 rfl (fun u28 hu28 => ?_)
  subst hu28
  try dsimp only
  refine lm_astq C 51 0 (w' := stW z u28 ct_s0 ++ (stW z v1 ct_s0 ++ (stW z v0 ct_s0 ++ ((q6, .inl (zo, 5, .inr (.inr (.inr (.inr (va_up (va_up (va_up (fun _ => none) 0 (some (v0 0))) 1 (some (v1 0))) 2 (some (u28 0)))))))) :: ((h0, .inr (1, [.ref q6, .int 0, .int 0])) :: ([])))))) rfl rfl (by unfold vp_in; decide) dX1_init_31 rfl rfl ?_
  refine lm_iinc (lv' := [(1, .int 3), (0, .ref h0)]) C (3 : Int32) dX1_init_32 0 rfl (by decide) (by decide) rfl [0, 1] rfl rfl ?_
  refine lm_goto C (tgt := 14) dX1_init_35 (by decide) ?_
  obtain ⟨v2, ev2⟩ : ∃ v, v = u28 := ⟨_, rfl⟩
  rw [← ev2]
  clear ev2 u28
  refine lm_iload_n C dX1_init_14 rfl 0 rfl rfl ?_
  refine lm_iconst C (v := (5 : Int32)) dX1_init_15 (by decide) rfl ?_
  refine lm_icmp_ge C (tgt := 38) dX1_init_16 (by decide) rfl (fun c4 => ?_) (fun c4 => ?_)
  · exact absurd c4 (by decide)
  refine lm_aload_n C dX1_init_19 rfl 1 rfl rfl ?_
  refine lm_getf C (T := TX1) (N := 3) (v := .ref q6) (by decide +kernel) 52 rfl rfl 0 (by decide) (by decide +kernel) rfl rfl dX1_init_20 rfl ?_
  refine lm_iload_n C dX1_init_23 rfl 0 rfl rfl ?_
  refine lm_new C (ci := 4) (fs := [.null, .null, .null, .null, .null, .null, .int 0, .int 0]) (T := TX4) (N := 8) (ce' := 53) (sl' := 532) hA.1 (by decide +kernel) tyX4 tyX4_ok (by decide +kernel) (by decide +kernel) (by decide +kernel) rfl (fun j hj => match j, hj with | 0, _ => rfl | 1, _ => rfl | 2, _ => rfl | 3, _ => rfl | 4, _ => rfl | 5, _ => rfl | 6, _ => rfl | 7, _ => rfl | n + 8, h => absurd h (by omega)) rfl rfl rfl dX1_init_24 rfl (fun q24 => ?_)
  refine lm_dup C dX1_init_27 rfl rfl ?_
  refine lm_callI C (ce' := 69) (sl' := 697) hA (n_X4_init D z zo l) gX1_init_X4_init rfl (by decide +kernel) (by decide +kernel) (by decide +kernel) rfl (by decide +kernel) ⟨Nat.le_of_ble_eq_true rfl, Nat.le_of_ble_eq_true rfl⟩ rfl rfl rfl (List.Perm.refl _) (Nat.le_of_ble_eq_true rfl) dX1_init_28 rfl (fun u28 hu28 => ?_)
  subst hu28
  try dsimp only
  refine lm_astq C 68 0 (w' := stW z u28 ct_s0 ++ (stW z v2 ct_s0 ++ (stW z v1 ct_s0 ++ (stW z v0 ct_s0 ++ ((q6, .inl (zo, 5, .inr (.inr (.inr (.inr (va_up (va_up (va_up (va_up (fun _ => none) 0 (some (v0 0))) 1 (some (v1 0))) 2 (some (v2 0))) 3 (some (u28 0)))))))) :: ((h0, .inr (1, [.ref q6, .int 0, .int 0])) :: ([]))))))) rfl rfl (by unfold vp_in; decide) dX1_init_31 rfl rfl ?_
  refine lm_iinc (lv' := [(1, .int 4), (0, .ref h0)]) C (4 : Int32) dX1_init_32 0 rfl (by decide) (by decide) rfl [0, 1] rfl rfl ?_
  refine lm_goto C (tgt := 14) dX1_init_35 (by decide) ?_
  obtain ⟨v3, ev3⟩ : ∃ v, v = u28 := ⟨_, rfl⟩
  rw [← ev3]
  clear ev3 u28
  refine lm_iload_n C dX1_init_14 rfl 0 rfl rfl ?_
  refine lm_iconst C (v := (5 : Int32)) dX1_init_15 (by decide) rfl ?_
  refine lm_icmp_ge C (tgt := 38) dX1_init_16 (by decide) rfl (fun c5 => ?_) (fun c5 => ?_)
  · exact absurd c5 (by decide)
  refine lm_aload_n C dX1_init_19 rfl 1 rfl rfl ?_
  refine lm_getf C (T := TX1) (N := 3) (v := .ref q6) (by decide +kernel) 69 rfl rfl 0 (by decide) (by decide +kernel) rfl rfl dX1_init_20 rfl ?_
  refine lm_iload_n C dX1_init_23 rfl 0 rfl rfl ?_
  refine lm_new C (ci := 4) (fs := [.null, .null, .null, .null, .null, .null, .int 0, .int 0]) (T := TX4) (N := 8) (ce' := 70) (sl' := 705) hA.1 (by decide +kernel) tyX4 tyX4_ok (by decide +kernel) (by decide +kernel) (by decide +kernel) rfl (fun j hj => match j, hj with | 0, _ => rfl | 1, _ => rfl | 2, _ => rfl | 3, _ => rfl | 4, _ => rfl | 5, _ => rfl | 6, _ => rfl | 7, _ => rfl | n + 8, h => absurd h (by omega)) rfl rfl rfl dX1_init_24 rfl (fun q24 => ?_)
  refine lm_dup C dX1_init_27 rfl rfl ?_
  refine lm_callI C (ce' := 86) (sl' := 870) hA (n_X4_init D z zo l) gX1_init_X4_init rfl (by decide +kernel) (by decide +kernel) (by decide +kernel) rfl (by decide +kernel) ⟨Nat.le_of_ble_eq_true rfl, Nat.le_of_ble_eq_true rfl⟩ rfl rfl rfl (List.Perm.refl _) (Nat.le_of_ble_eq_true rfl) dX1_init_28 rfl (fun u28 hu28 => ?_)
  subst hu28
  try dsimp only
  refine lm_astq C 85 0 (w' := stW z u28 ct_s0 ++ (stW z v3 ct_s0 ++ (stW z v2 ct_s0 ++ (stW z v1 ct_s0 ++ (stW z v0 ct_s0 ++ ((q6, .inl (zo, 5, .inr (.inr (.inr (.inr (va_up (va_up (va_up (va_up (va_up (fun _ => none) 0 (some (v0 0))) 1 (some (v1 0))) 2 (some (v2 0))) 3 (some (v3 0))) 4 (some (u28 0)))))))) :: ((h0, .inr (1, [.ref q6, .int 0, .int 0])) :: ([])))))))) rfl rfl (by unfold vp_in; decide) dX1_init_31 rfl rfl ?_
  refine lm_iinc (lv' := [(1, .int 5), (0, .ref h0)]) C (5 : Int32) dX1_init_32 0 rfl (by decide) (by decide) rfl [0, 1] rfl rfl ?_
  refine lm_goto C (tgt := 14) dX1_init_35 (by decide) ?_
  obtain ⟨v4, ev4⟩ : ∃ v, v = u28 := ⟨_, rfl⟩
  rw [← ev4]
  clear ev4 u28
  refine lm_iload_n C dX1_init_14 rfl 0 rfl rfl ?_
  refine lm_iconst C (v := (5 : Int32)) dX1_init_15 (by decide) rfl ?_
  refine lm_icmp_ge C (tgt := 38) dX1_init_16 (by decide) rfl (fun c6 => ?_) (fun c6 => ?_)
  rotate_left
  · exact absurd (by decide) c6
  refine lm_arr 85 (f := va_up (va_up (va_up (va_up (va_up (fun _ => none) 0 (some (v0 0))) 1 (some (v1 0))) 2 (some (v2 0))) 3 (some (v3 0))) 4 (some (v4 0))) (g := fun i => some (lm_a5 v0 v1 v2 v3 v4 i 0)) (w' := stW z v4 ct_s0 ++ (stW z v3 ct_s0 ++ (stW z v2 ct_s0 ++ (stW z v1 ct_s0 ++ (stW z v0 ct_s0 ++ ((q6, .inl (zo, 5, .inr (.inr (.inr (.inr (fun i => some (lm_a5 v0 v1 v2 v3 v4 i 0))))))) :: ((h0, .inr (1, [.ref q6, .int 0, .int 0])) :: ([])))))))) rfl (fun i hi => match i, hi with | 0, _ => rfl | 1, _ => rfl | 2, _ => rfl | 3, _ => rfl | 4, _ => rfl | n + 5, h => absurd h (by omega)) rfl ?_
  have e9 : hiW z zo (lm_l [h0, q6], lm_a5 v0 v1 v2 v3 v4).1 (lm_l [h0, q6], lm_a5 v0 v1 v2 v3 v4).2 = (h0, .inr (1, [.ref q6, .int 0, .int 0])) :: ((q6, .inl (zo, 5, .inr (.inr (.inr (.inr (fun i => some (lm_a5 v0 v1 v2 v3 v4 i 0))))))) :: (stW z v0 ct_s0 ++ (stW z v1 ct_s0 ++ (stW z v2 ct_s0 ++ (stW z v3 ct_s0 ++ (stW z v4 ct_s0 ++ ([]))))))) := rfl
  refine lm_nret C hr hk (lm_l [h0, q6], lm_a5 v0 v1 v2 v3 v4) rfl ?_ dX1_init_38
  show List.Perm ((stW z v4 ct_s0 ++ (stW z v3 ct_s0 ++ (stW z v2 ct_s0 ++ (stW z v1 ct_s0 ++ (stW z v0 ct_s0 ++ ((q6, .inl (zo, 5, .inr (.inr (.inr (.inr (fun i => some (lm_a5 v0 v1 v2 v3 v4 i 0))))))) :: ((h0, .inr (1, [.ref q6, .int 0, .int 0])) :: ([])))))))) : va_W) (hiW z zo (lm_l [h0, q6], lm_a5 v0 v1 v2 v3 v4).1 (lm_l [h0, q6], lm_a5 v0 v1 v2 v3 v4).2)
  rw [e9]
  refine lm_cnt fun f g h1 h2 h3 => ?_
  simp only [h1, h2, h3]
  omega
set_option maxRecDepth 100000 in
set_option maxHeartbeats 4000000 in
theorem n_X6_init (D : va_G) (z zo : ClassId) (l : Launch) : lm_N D z zo l yX6_init wsX6_init 4 81 140 1461 6 [.null, .null, .null, .null, .null, .int 0, .int 0, .int 0, .int 0] (fun u : (Nat → Nat) × (Nat → Nat → Nat) => lmW z zo u.1 u.2 ct_h0) (fun u => u.1 0) := by
  refine lm_N.of (by decide) rfl (Nat.le_of_ble_eq_true rfl) (own := RX6) rfl ?_
  intro p e s m args below meth c h0 C hr hk hname hA
  refine lm_aload_n C dX6_init_0 rfl 0 rfl rfl ?_
  refine lm_oinit C (by decide +kernel) (by decide +kernel) (by decide +kernel) (Nat.le_of_ble_eq_true rfl) (Nat.le_of_ble_eq_true rfl) (Nat.le_of_ble_eq_true rfl) dX6_init_1 rfl ?_
  refine lm_aload_n C dX6_init_4 rfl 0 rfl rfl ?_
  refine lm_new C (ci := 4) (fs := [.null, .null, .null, .null, .null, .null, .int 0, .int 0]) (T := TX4) (N := 8) (ce' := 1) (sl' := 8) hA.1 (by decide +kernel) tyX4 tyX4_ok (by decide +kernel) (by decide +kernel) (by decide +kernel) rfl (fun j hj => match j, hj with | 0, _ => rfl | 1, _ => rfl | 2, _ => rfl | 3, _ => rfl | 4, _ => rfl | 5, _ => rfl | 6, _ => rfl | 7, _ => rfl | n + 8, h => absurd h (by omega)) rfl rfl rfl dX6_init_5 rfl (fun q5 => ?_)
  refine lm_dup C dX6_init_8 rfl rfl ?_
  refine lm_callI C (ce' := 17) (sl' := 173) hA (n_X4_init D z zo l) gX6_init_X4_init rfl (by decide +kernel) (by decide +kernel) (by decide +kernel) rfl (by decide +kernel) ⟨Nat.le_of_ble_eq_true rfl, Nat.le_of_ble_eq_true rfl⟩ rfl rfl rfl (List.Perm.refl _) (Nat.le_of_ble_eq_true rfl) dX6_init_9 rfl (fun u9 hu9 => ?_)
  subst hu9
  try dsimp only
  refine lm_putF C (ci := 6) (T := TX6) (N := 9) (ty := .object "LoopMemo$State") (v := .ref (u9 0)) (w' := stW z u9 ct_s0 ++ ((h0, .inr (6, [.ref (u9 0), .null, .null, .null, .null, .int 0, .int 0, .int 0, .int 0])) :: ([]))) hname (by decide +kernel) tyX6 tyX6_ok nmX6 17 rfl rfl 0 (by decide) (by decide +kernel) rfl rfl rfl rfl rfl rfl (Nat.le_of_ble_eq_true rfl) dX6_init_12 rfl rfl ?_
  refine lm_aload_n C dX6_init_15 rfl 0 rfl rfl ?_
  refine lm_new C (ci := 4) (fs := [.null, .null, .null, .null, .null, .null, .int 0, .int 0]) (T := TX4) (N := 8) (ce' := 18) (sl' := 181) hA.1 (by decide +kernel) tyX4 tyX4_ok (by decide +kernel) (by decide +kernel) (by decide +kernel) rfl (fun j hj => match j, hj with | 0, _ => rfl | 1, _ => rfl | 2, _ => rfl | 3, _ => rfl | 4, _ => rfl | 5, _ => rfl | 6, _ => rfl | 7, _ => rfl | n + 8, h => absurd h (by omega)) rfl rfl rfl dX6_init_16 rfl (fun q16 => ?_)
  refine lm_dup C dX6_init_19 rfl rfl ?_
  refine lm_callI C (ce' := 34) (sl' := 346) hA (n_X4_init D z zo l) gX6_init_X4_init rfl (by decide +kernel) (by decide +kernel) (by decide +kernel) rfl (by decide +kernel) ⟨Nat.le_of_ble_eq_true rfl, Nat.le_of_ble_eq_true rfl⟩ rfl rfl rfl (List.Perm.refl _) (Nat.le_of_ble_eq_true rfl) dX6_init_20 rfl (fun u20 hu20 => ?_)
  subst hu20
  try dsimp only
  refine lm_putF C (ci := 6) (T := TX6) (N := 9) (ty := .object "LoopMemo$State") (v := .ref (u20 0)) (w' := stW z u20 ct_s0 ++ (stW z u9 ct_s0 ++ ((h0, .inr (6, [.ref (u9 0), .ref (u20 0), .null, .null, .null, .int 0, .int 0, .int 0, .int 0])) :: ([])))) hname (by decide +kernel) tyX6 tyX6_ok nmX6 34 rfl rfl 1 (by decide) (by decide +kernel) rfl rfl rfl rfl rfl rfl (Nat.le_of_ble_eq_true rfl) dX6_init_23 rfl rfl ?_
  refine lm_aload_n C dX6_init_26 rfl 0 rfl rfl ?_
  refine lm_new C (ci := 4) (fs := [.null, .null, .null, .null, .null, .null, .int 0, .int 0]) (T := TX4) (N := 8) (ce' := 35) (sl' := 354) hA.1 (by decide +kernel) tyX4 tyX4_ok (by decide +kernel) (by decide +kernel) (by decide +kernel) rfl (fun j hj => match j, hj with | 0, _ => rfl | 1, _ => rfl | 2, _ => rfl | 3, _ => rfl | 4, _ => rfl | 5, _ => rfl | 6, _ => rfl | 7, _ => rfl | n + 8, h => absurd h (by omega)) rfl rfl rfl dX6_init_27 rfl (fun q27 => ?_)
  refine lm_dup C dX6_init_30 rfl rfl ?_
  refine lm_callI C (ce' := 51) (sl' := 519) hA (n_X4_init D z zo l) gX6_init_X4_init rfl (by decide +kernel) (by decide +kernel) (by decide +kernel) rfl (by decide +kernel) ⟨Nat.le_of_ble_eq_true rfl, Nat.le_of_ble_eq_true rfl⟩ rfl rfl rfl (List.Perm.refl _) (Nat.le_of_ble_eq_true rfl) dX6_init_31 rfl (fun u31 hu31 => ?_)
  subst hu31
  try dsimp only
  refine lm_putF C (ci := 6) (T := TX6) (N := 9) (ty := .object "LoopMemo$State") (v := .ref (u31 0)) (w' := stW z u31 ct_s0 ++ (stW z u20 ct_s0 ++ (stW z u9 ct_s0 ++ ((h0, .inr (6, [.ref (u9 0), .ref (u20 0), .ref (u31 0), .null, .null, .int 0, .int 0, .int 0, .int 0])) :: ([]))))) hname (by decide +kernel) tyX6 tyX6_ok nmX6 51 rfl rfl 2 (by decide) (by decide +kernel) rfl rfl rfl rfl rfl rfl (Nat.le_of_ble_eq_true rfl) dX6_init_34 rfl rfl ?_
  refine lm_aload_n C dX6_init_37 rfl 0 rfl rfl ?_
  refine lm_new C (ci := 1) (fs := [.null, .int 0, .int 0]) (T := TX1) (N := 3) (ce' := 52) (sl' := 522) hA.1 (by decide +kernel) tyX1 tyX1_ok (by decide +kernel) (by decide +kernel) (by decide +kernel) rfl (fun j hj => match j, hj with | 0, _ => rfl | 1, _ => rfl | 2, _ => rfl | n + 3, h => absurd h (by omega)) rfl rfl rfl dX6_init_38 rfl (fun q38 => ?_)
  refine lm_dup C dX6_init_41 rfl rfl ?_
  refine lm_callI C (ce' := 138) (sl' := 1392) hA (n_X1_init D z zo l) gX6_init_X1_init rfl (by decide +kernel) (by decide +kernel) (by decide +kernel) rfl (by decide +kernel) ⟨Nat.le_of_ble_eq_true rfl, Nat.le_of_ble_eq_true rfl⟩ rfl rfl rfl (List.Perm.refl _) (Nat.le_of_ble_eq_true rfl) dX6_init_42 rfl (fun u42 hu42 => ?_)
  subst hu42
  try dsimp only
  refine lm_putF C (ci := 6) (T := TX6) (N := 9) (ty := .object "LoopMemo$History") (v := .ref (u42.1 0)) (w' := hiW z zo u42.1 u42.2 ++ (stW z u31 ct_s0 ++ (stW z u20 ct_s0 ++ (stW z u9 ct_s0 ++ ((h0, .inr (6, [.ref (u9 0), .ref (u20 0), .ref (u31 0), .ref (u42.1 0), .null, .int 0, .int 0, .int 0, .int 0])) :: ([])))))) hname (by decide +kernel) tyX6 tyX6_ok nmX6 138 rfl rfl 3 (by decide) (by decide +kernel) rfl rfl rfl rfl rfl rfl (Nat.le_of_ble_eq_true rfl) dX6_init_45 rfl rfl ?_
  refine lm_aload_n C dX6_init_48 rfl 0 rfl rfl ?_
  refine lm_new C (ci := 3) (fs := [.null, .int 0, .int 0, .int 0, .int 0, .int 0, .int 0, .int 0, .int 0]) (T := TX3) (N := 9) (ce' := 139) (sl' := 1401) hA.1 (by decide +kernel) tyX3 tyX3_ok (by decide +kernel) (by decide +kernel) (by decide +kernel) rfl (fun j hj => match j, hj with | 0, _ => rfl | 1, _ => rfl | 2, _ => rfl | 3, _ => rfl | 4, _ => rfl | 5, _ => rfl | 6, _ => rfl | 7, _ => rfl | 8, _ => rfl | n + 9, h => absurd h (by omega)) rfl rfl rfl dX6_init_49 rfl (fun q49 => ?_)
  refine lm_dup C dX6_init_52 rfl rfl ?_
  refine lm_callI C (ce' := 140) (sl' := 1461) hA (n_X3_init D z zo l) gX6_init_X3_init rfl (by decide +kernel) (by decide +kernel) (by decide +kernel) rfl (by decide +kernel) ⟨Nat.le_of_ble_eq_true rfl, Nat.le_of_ble_eq_true rfl⟩ rfl rfl rfl (List.Perm.refl _) (Nat.le_of_ble_eq_true rfl) dX6_init_53 rfl (fun u53 hu53 => ?_)
  subst hu53
  try dsimp only
  refine lm_putF C (ci := 6) (T := TX6) (N := 9) (ty := .object "LoopMemo$Pad") (v := .ref (u53 0)) (w' := pdW z u53 ct_z0 ++ (hiW z zo u42.1 u42.2 ++ (stW z u31 ct_s0 ++ (stW z u20 ct_s0 ++ (stW z u9 ct_s0 ++ ((h0, .inr (6, [.ref (u9 0), .ref (u20 0), .ref (u31 0), .ref (u42.1 0), .ref (u53 0), .int 0, .int 0, .int 0, .int 0])) :: ([]))))))) hname (by decide +kernel) tyX6 tyX6_ok nmX6 140 rfl rfl 4 (by decide) (by decide +kernel) rfl rfl rfl rfl rfl rfl (Nat.le_of_ble_eq_true rfl) dX6_init_56 rfl rfl ?_
  have eh : hiW z zo u42.1 u42.2 = (u42.1 0, .inr (1, [.ref (u42.1 1), .int 0, .int 0])) :: (u42.1 1, .inl (zo, 5, .inr (.inr (.inr (.inr (fun i => some (u42.2 i 0))))))) :: (stW z (u42.2 0) ct_s0 ++ (stW z (u42.2 1) ct_s0 ++ (stW z (u42.2 2) ct_s0 ++ (stW z (u42.2 3) ct_s0 ++ (stW z (u42.2 4) ct_s0 ++ []))))) := rfl
  refine lm_arr 3 (f := fun i => some (u42.2 i 0)) (g := fun i => some (lm_a8 u9 u20 u31 u42.2 (3 + i) 0)) (w' := pdW z u53 ct_z0 ++ ((u42.1 0, .inr (1, [.ref (u42.1 1), .int 0, .int 0])) :: ((u42.1 1, .inl (zo, 5, .inr (.inr (.inr (.inr (fun i => some (lm_a8 u9 u20 u31 u42.2 (3 + i) 0))))))) :: (stW z (u42.2 0) ct_s0 ++ (stW z (u42.2 1) ct_s0 ++ (stW z (u42.2 2) ct_s0 ++ (stW z (u42.2 3) ct_s0 ++ (stW z (u42.2 4) ct_s0 ++ (stW z u31 ct_s0 ++ (stW z u20 ct_s0 ++ (stW z u9 ct_s0 ++ ((h0, .inr (6, [.ref (u9 0), .ref (u20 0), .ref (u31 0), .ref (u42.1 0), .ref (u53 0), .int 0, .int 0, .int 0, .int 0])) :: ([]))))))))))))) rfl (fun i hi => match i, hi with | 0, _ => rfl | 1, _ => rfl | 2, _ => rfl | 3, _ => rfl | 4, _ => rfl | n + 5, h => absurd h (by omega)) rfl ?_
  have e9 : lmW z zo (lm_m5 h0 u53 u42.1, lm_a8 u9 u20 u31 u42.2).1 (lm_m5 h0 u53 u42.1, lm_a8 u9 u20 u31 u42.2).2 ct_h0 = (h0, .inr (6, [.ref (u9 0), .ref (u20 0), .ref (u31 0), .ref (u42.1 0), .ref (u53 0), .int 0, .int 0, .int 0, .int 0])) :: (pdW z u53 ct_z0 ++ ((u42.1 0, .inr (1, [.ref (u42.1 1), .int 0, .int 0])) :: ((u42.1 1, .inl (zo, 5, .inr (.inr (.inr (.inr (fun i => some (lm_a8 u9 u20 u31 u42.2 (3 + i) 0))))))) :: (stW z u9 ct_s0 ++ (stW z u20 ct_s0 ++ (stW z u31 ct_s0 ++ (stW z (u42.2 0) ct_s0 ++ (stW z (u42.2 1) ct_s0 ++ (stW z (u42.2 2) ct_s0 ++ (stW z (u42.2 3) ct_s0 ++ (stW z (u42.2 4) ct_s0 ++ ([])))))))))))) := rfl
  refine lm_nret C hr hk (lm_m5 h0 u53 u42.1, lm_a8 u9 u20 u31 u42.2) rfl ?_ dX6_init_59
  show List.Perm ((pdW z u53 ct_z0 ++ ((u42.1 0, .inr (1, [.ref (u42.1 1), .int 0, .int 0])) :: ((u42.1 1, .inl (zo, 5, .inr (.inr (.inr (.inr (fun i => some (lm_a8 u9 u20 u31 u42.2 (3 + i) 0))))))) :: (stW z (u42.2 0) ct_s0 ++ (stW z (u42.2 1) ct_s0 ++ (stW z (u42.2 2) ct_s0 ++ (stW z (u42.2 3) ct_s0 ++ (stW z (u42.2 4) ct_s0 ++ (stW z u31 ct_s0 ++ (stW z u20 ct_s0 ++ (stW z u9 ct_s0 ++ ((h0, .inr (6, [.ref (u9 0), .ref (u20 0), .ref (u31 0), .ref (u42.1 0), .ref (u53 0), .int 0, .int 0, .int 0, .int 0])) :: ([]))))))))))))) : va_W) (lmW z zo (lm_m5 h0 u53 u42.1, lm_a8 u9 u20 u31 u42.2).1 (lm_m5 h0 u53 u42.1, lm_a8 u9 u20 u31 u42.2).2 ct_h0)
  rw [e9]
  refine lm_cnt fun f g h1 h2 h3 => ?_
  simp only [h1, h2, h3]
  omega
