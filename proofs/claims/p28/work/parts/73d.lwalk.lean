theorem arrcls_L_areTold : Cond.arrayClass .int ∈ wsL_areTold := by decide +kernel
set_option maxRecDepth 100000 in
set_option maxHeartbeats 4000000 in
theorem m_L_areTold (D : va_G) (z zo : ClassId) (l : Launch) (m : Nat → Nat) (a : Nat → Nat → Nat) (b : Nat → Nat) (h : Nat → Hp)  (r : Int32)  (hF : F_L_areTold h  = some r) : lm_CA D z zo l yL_areTold wsL_areTold 3 68 2 20 [.ref (m 0), .ref (b 0), .ref (b 1), .ref (b 2), .ref (b 3), .ref (b 4), .ref (b 5)] (lwMW z zo m a b h) (some (.int r)) := by
  refine lm_CA.of (by decide) rfl (Nat.le_of_ble_eq_true rfl) (own := RL) rfl ?_
  intro p e s m_ args below meth c C hr hk hA
  have loop_325 : ∀ (n : Nat) (t1 t2 : Nat) (νx : Hp) (x10 : Int32) (x11 : Int32) (x12 : Int32) (o0 : Int32), F_L_areTold_L325 n h νx x10 x11 x12 = some o0 → lm_St p l e ({ frames := 3, cells := 2, slots := 20, locals := 68 }) s m_ args below meth c D (va_A (lwMW z zo m a b h) s.heap.size) 15 2 20 (lm_EndA below D (some (.int r)) (lwMW z zo m a b h) args s 2 20) false (lwMW z zo m a b h ++ nw2W z t1 t2 νx) 384 [(0, .ref (m 0)), (1, .ref (b 0)), (2, .ref (b 1)), (4, .ref (b 3)), (10, .int x10), (11, .int o0)] [] → lm_St p l e ({ frames := 3, cells := 2, slots := 20, locals := 68 }) s m_ args below meth c D (va_A (lwMW z zo m a b h) s.heap.size) 15 2 20 (lm_EndA below D (some (.int r)) (lwMW z zo m a b h) args s 2 20) false (lwMW z zo m a b h ++ nw2W z t1 t2 νx) 325 [(0, .ref (m 0)), (1, .ref (b 0)), (2, .ref (b 1)), (4, .ref (b 3)), (10, .int x10), (11, .int x11), (12, .int x12)] [] := by
    intro n
    induction n with
    | zero => intro t1 t2 νx x10 x11 x12 o0 hF hK; cases (show (none : Option _) = some _ from hF)
    | succ n ih =>
      intro t1 t2 νx x10 x11 x12 o0 hF hK
      rw [F_L_areTold_L325] at hF
      refine lm_iload C dL_areTold_325 6 rfl rfl ?_
      refine lm_if_lt C (tgt := 384) dL_areTold_327 (by decide) rfl (fun c11 => ?_) (fun c11 => ?_)
      · have hF := lm_brt hF c11
        refine lm_lvsub (lv' := [(0, .ref (m 0)), (1, .ref (b 0)), (2, .ref (b 1)), (4, .ref (b 3)), (10, .int x10), (11, .int x11)]) [0, 1, 2, 3, 4, 5] rfl ?_
        cases hF
        exact hK
      · have hF := lm_brf hF c11
        refine lm_aload_n C dL_areTold_330 rfl 2 rfl rfl ?_
        refine lm_iconst C (v := (2 : Int32)) dL_areTold_331 (by decide) rfl ?_
        refine lm_iload C dL_areTold_332 6 rfl rfl ?_
        refine lm_imul C dL_areTold_334 rfl rfl ?_
        obtain ⟨b12, hF⟩ := lm_gie hF
        refine lm_iald C (v := (h 9 1 (((2 : Int32) * x12)).toNatClampNeg)) 142 rfl b12 rfl dL_areTold_335 rfl ?_
        refine lm_iload C dL_areTold_336 4 rfl rfl ?_
        refine lm_icmp_ne C (tgt := 374) dL_areTold_338 (by decide) rfl (fun c13 => ?_) (fun c13 => ?_)
        · have hF := lm_brt hF c13
          refine lm_iload C dL_areTold_374 5 rfl rfl ?_
          refine lm_istore C (lv' := [(0, .ref (m 0)), (1, .ref (b 0)), (2, .ref (b 1)), (4, .ref (b 3)), (10, .int x10), (11, .int x11), (12, .int x12)]) dL_areTold_376 (by decide) rfl [1, 2, 3, 4, 5, 0, 6] rfl rfl ?_
          refine lm_iinc C (lv' := [(0, .ref (m 0)), (1, .ref (b 0)), (2, .ref (b 1)), (4, .ref (b 3)), (10, .int x10), (11, .int x11), (12, .int (x12 + (-1 : Int32)))]) (x12 + (-1 : Int32)) dL_areTold_378 6 rfl rfl (by decide) rfl [1, 2, 3, 4, 5, 6, 0] rfl rfl ?_
          refine lm_goto C (tgt := 325) dL_areTold_381 (by decide) ?_
          exact ih t1 t2 νx x10 x11 (x12 + (-1 : Int32)) _ hF hK
        · have hF := lm_brf hF c13
          refine lm_aload_n C dL_areTold_341 rfl 2 rfl rfl ?_
          refine lm_iconst C (v := (2 : Int32)) dL_areTold_342 (by decide) rfl ?_
          refine lm_iload C dL_areTold_343 6 rfl rfl ?_
          refine lm_imul C dL_areTold_345 rfl rfl ?_
          refine lm_iconst C (v := (1 : Int32)) dL_areTold_346 (by decide) rfl ?_
          refine lm_iadd C dL_areTold_347 rfl rfl ?_
          obtain ⟨b14, hF⟩ := lm_gie hF
          refine lm_iald C (v := (h 9 1 ((((2 : Int32) * x12) + (1 : Int32))).toNatClampNeg)) 142 rfl b14 rfl dL_areTold_348 rfl ?_
          refine lm_aload_n C dL_areTold_349 rfl 1 rfl rfl ?_
          refine lm_iconst C (v := (3 : Int32)) dL_areTold_350 (by decide) rfl ?_
          refine lm_iald C (v := (h 9 0 3)) 141 rfl (by unfold vp_in; decide) rfl dL_areTold_351 rfl ?_
          refine lm_icmp_lt C (tgt := 374) dL_areTold_352 (by decide) rfl (fun c15 => ?_) (fun c15 => ?_)
          · have hF := lm_brt hF c15
            refine lm_iload C dL_areTold_374 5 rfl rfl ?_
            refine lm_istore C (lv' := [(0, .ref (m 0)), (1, .ref (b 0)), (2, .ref (b 1)), (4, .ref (b 3)), (10, .int x10), (11, .int x11), (12, .int x12)]) dL_areTold_376 (by decide) rfl [1, 2, 3, 4, 5, 0, 6] rfl rfl ?_
            refine lm_iinc C (lv' := [(0, .ref (m 0)), (1, .ref (b 0)), (2, .ref (b 1)), (4, .ref (b 3)), (10, .int x10), (11, .int x11), (12, .int (x12 + (-1 : Int32)))]) (x12 + (-1 : Int32)) dL_areTold_378 6 rfl rfl (by decide) rfl [1, 2, 3, 4, 5, 6, 0] rfl rfl ?_
            refine lm_goto C (tgt := 325) dL_areTold_381 (by decide) ?_
            exact ih t1 t2 νx x10 x11 (x12 + (-1 : Int32)) _ hF hK
          · have hF := lm_brf hF c15
            refine lm_aload_n C dL_areTold_355 rfl 2 rfl rfl ?_
            refine lm_iconst C (v := (2 : Int32)) dL_areTold_356 (by decide) rfl ?_
            refine lm_iload C dL_areTold_357 6 rfl rfl ?_
            refine lm_imul C dL_areTold_359 rfl rfl ?_
            refine lm_iconst C (v := (1 : Int32)) dL_areTold_360 (by decide) rfl ?_
            refine lm_iadd C dL_areTold_361 rfl rfl ?_
            obtain ⟨b16, hF⟩ := lm_gie hF
            refine lm_iald C (v := (h 9 1 ((((2 : Int32) * x12) + (1 : Int32))).toNatClampNeg)) 142 rfl b16 rfl dL_areTold_362 rfl ?_
            refine lm_aload_n C dL_areTold_363 rfl 1 rfl rfl ?_
            refine lm_iconst C (v := (4 : Int32)) dL_areTold_364 (by decide) rfl ?_
            refine lm_iald C (v := (h 9 0 4)) 141 rfl (by unfold vp_in; decide) rfl dL_areTold_365 rfl ?_
            refine lm_icmp_gt C (tgt := 374) dL_areTold_366 (by decide) rfl (fun c17 => ?_) (fun c17 => ?_)
            · have hF := lm_brt hF c17
              refine lm_iload C dL_areTold_374 5 rfl rfl ?_
              refine lm_istore C (lv' := [(0, .ref (m 0)), (1, .ref (b 0)), (2, .ref (b 1)), (4, .ref (b 3)), (10, .int x10), (11, .int x11), (12, .int x12)]) dL_areTold_376 (by decide) rfl [1, 2, 3, 4, 5, 0, 6] rfl rfl ?_
              refine lm_iinc C (lv' := [(0, .ref (m 0)), (1, .ref (b 0)), (2, .ref (b 1)), (4, .ref (b 3)), (10, .int x10), (11, .int x11), (12, .int (x12 + (-1 : Int32)))]) (x12 + (-1 : Int32)) dL_areTold_378 6 rfl rfl (by decide) rfl [1, 2, 3, 4, 5, 6, 0] rfl rfl ?_
              refine lm_goto C (tgt := 325) dL_areTold_381 (by decide) ?_
              exact ih t1 t2 νx x10 x11 (x12 + (-1 : Int32)) _ hF hK
            · have hF := lm_brf hF c17
              refine lm_iload C dL_areTold_369 6 rfl rfl ?_
              refine lm_goto C (tgt := 376) dL_areTold_371 (by decide) ?_
              refine lm_istore C (lv' := [(0, .ref (m 0)), (1, .ref (b 0)), (2, .ref (b 1)), (4, .ref (b 3)), (10, .int x10), (11, .int x12), (12, .int x12)]) dL_areTold_376 (by decide) rfl [1, 2, 3, 4, 5, 0, 6] rfl rfl ?_
              refine lm_iinc C (lv' := [(0, .ref (m 0)), (1, .ref (b 0)), (2, .ref (b 1)), (4, .ref (b 3)), (10, .int x10), (11, .int x12), (12, .int (x12 + (-1 : Int32)))]) (x12 + (-1 : Int32)) dL_areTold_378 6 rfl rfl (by decide) rfl [1, 2, 3, 4, 5, 6, 0] rfl rfl ?_
              refine lm_goto C (tgt := 325) dL_areTold_381 (by decide) ?_
              exact ih t1 t2 νx x10 x12 (x12 + (-1 : Int32)) _ hF hK
  have loop_302 : ∀ (n : Nat) (t1 t2 : Nat) (νx : Hp) (x7 : Int32) (x10 : Int32), F_L_areTold_L302 n h νx x7 x10 = some r → lm_St p l e ({ frames := 3, cells := 2, slots := 20, locals := 68 }) s m_ args below meth c D (va_A (lwMW z zo m a b h) s.heap.size) 15 2 20 (lm_EndA below D (some (.int r)) (lwMW z zo m a b h) args s 2 20) false (lwMW z zo m a b h ++ nw2W z t1 t2 νx) 302 [(0, .ref (m 0)), (1, .ref (b 0)), (2, .ref (b 1)), (4, .ref (b 3)), (7, .int x7), (10, .int x10)] [] := by
    intro n
    induction n with
    | zero => intro t1 t2 νx x7 x10 hF; cases (show (none : Option _) = some _ from hF)
    | succ n ih =>
      intro t1 t2 νx x7 x10 hF
      rw [F_L_areTold_L302] at hF
      refine lm_iload C dL_areTold_302 5 rfl rfl ?_
      refine lm_bipush C (v := (10 : Int32)) dL_areTold_304 (by decide) rfl ?_
      refine lm_icmp_ge C (tgt := 595) dL_areTold_306 (by decide) rfl (fun c7 => ?_) (fun c7 => ?_)
      · have hF := lm_brt hF c7
        refine lm_iload C dL_areTold_595 4 rfl rfl ?_
        obtain ⟨c8, hF⟩ := lm_gde hF
        cases hF
        exact lm_zretA C hr hk (lm_boolok c8) rfl rfl dL_areTold_597
      · have hF := lm_brf hF c7
        refine lm_iload C dL_areTold_309 4 rfl rfl ?_
        refine lm_if_eq C (tgt := 595) dL_areTold_311 (by decide) rfl (fun c9 => ?_) (fun c9 => ?_)
        · have hF := lm_brt hF c9
          refine lm_iload C dL_areTold_595 4 rfl rfl ?_
          obtain ⟨c10, hF⟩ := lm_gde hF
          cases hF
          exact lm_zretA C hr hk (lm_boolok c10) rfl rfl dL_areTold_597
        · have hF := lm_brf hF c9
          refine lm_bipush C (v := (-4 : Int32)) dL_areTold_314 (by decide) rfl ?_
          refine lm_istore C (lv' := [(0, .ref (m 0)), (1, .ref (b 0)), (2, .ref (b 1)), (4, .ref (b 3)), (7, .int x7), (10, .int x10), (11, .int (-4 : Int32))]) dL_areTold_316 (by decide) rfl [1, 2, 3, 4, 5, 6, 0] rfl rfl ?_
          refine lm_aload_n C dL_areTold_318 rfl 1 rfl rfl ?_
          refine lm_iconst C (v := (5 : Int32)) dL_areTold_319 (by decide) rfl ?_
          refine lm_iald C (v := (h 9 0 5)) 141 rfl (by unfold vp_in; decide) rfl dL_areTold_320 rfl ?_
          refine lm_iconst C (v := (1 : Int32)) dL_areTold_321 (by decide) rfl ?_
          refine lm_isub C dL_areTold_322 rfl rfl ?_
          refine lm_istore C (lv' := [(0, .ref (m 0)), (1, .ref (b 0)), (2, .ref (b 1)), (4, .ref (b 3)), (7, .int x7), (10, .int x10), (11, .int (-4 : Int32)), (12, .int ((h 9 0 5) - (1 : Int32)))]) dL_areTold_323 (by decide) rfl [1, 2, 3, 4, 5, 6, 7, 0] rfl rfl ?_
          refine lm_lvsub (lv' := [(0, .ref (m 0)), (1, .ref (b 0)), (2, .ref (b 1)), (4, .ref (b 3)), (10, .int x10), (11, .int (-4 : Int32)), (12, .int ((h 9 0 5) - (1 : Int32)))]) [0, 1, 2, 3, 5, 6, 7] rfl ?_
          obtain ⟨y18, hqy18, hF⟩ := lm_bde hF
          refine loop_325 1000 t1 t2 νx x10 (-4 : Int32) ((h 9 0 5) - (1 : Int32)) y18 hqy18 ?_
          refine lm_aload_n C dL_areTold_384 rfl 1 rfl rfl ?_
          refine lm_aload_n C dL_areTold_385 rfl 2 rfl rfl ?_
          refine lm_iload C dL_areTold_386 4 rfl rfl ?_
          refine lm_iconst C (v := (0 : Int32)) dL_areTold_388 (by decide) rfl ?_
          obtain ⟨r19, qr19, hF⟩ := lm_bde hF
          refine lm_callSR C (n := 4) (m_L_weight D z zo l b (h 9) x10 (0 : Int32) r19 qr19) gL_areTold_L_weight rfl (by decide +kernel) ⟨Nat.le_of_ble_eq_true rfl, Nat.le_of_ble_eq_true rfl⟩ ⟨Nat.le_of_ble_eq_true rfl, Nat.le_of_ble_eq_true rfl⟩ (fun q hq => List.mem_append_left _ ((lw_s6 z zo m a b h) q hq)) rfl rfl (Nat.le_of_ble_eq_true rfl) dL_areTold_389 (st' := [.int r19]) rfl rfl ?_
          refine lm_istore C (lv' := [(0, .ref (m 0)), (1, .ref (b 0)), (2, .ref (b 1)), (4, .ref (b 3)), (10, .int x10), (11, .int y18), (12, .int r19)]) dL_areTold_392 (by decide) rfl [1, 2, 3, 4, 5, 6, 0] rfl rfl ?_
          refine lm_aload_n C dL_areTold_394 rfl 1 rfl rfl ?_
          refine lm_aload_n C dL_areTold_395 rfl 2 rfl rfl ?_
          refine lm_iload C dL_areTold_396 4 rfl rfl ?_
          refine lm_iconst C (v := (1 : Int32)) dL_areTold_398 (by decide) rfl ?_
          obtain ⟨r20, qr20, hF⟩ := lm_bde hF
          refine lm_callSR C (n := 4) (m_L_weight D z zo l b (h 9) x10 (1 : Int32) r20 qr20) gL_areTold_L_weight rfl (by decide +kernel) ⟨Nat.le_of_ble_eq_true rfl, Nat.le_of_ble_eq_true rfl⟩ ⟨Nat.le_of_ble_eq_true rfl, Nat.le_of_ble_eq_true rfl⟩ (fun q hq => List.mem_append_left _ ((lw_s6 z zo m a b h) q hq)) rfl rfl (Nat.le_of_ble_eq_true rfl) dL_areTold_399 (st' := [.int r20]) rfl rfl ?_
          refine lm_istore C (lv' := [(0, .ref (m 0)), (1, .ref (b 0)), (2, .ref (b 1)), (4, .ref (b 3)), (10, .int x10), (11, .int y18), (12, .int r19), (13, .int r20)]) dL_areTold_402 (by decide) rfl [1, 2, 3, 4, 5, 6, 7, 0] rfl rfl ?_
          refine lm_aload C dL_areTold_404 3 rfl rfl ?_
          refine lm_iload C dL_areTold_406 4 rfl rfl ?_
          obtain ⟨r21, qr21, hF⟩ := lm_bde hF
          refine lm_callSR C (n := 2) (m_L_has D z zo l (lw_f1 (b 3)) (lw_f1 (h 9 3)) x10 r21 qr21) gL_areTold_L_has rfl (by decide +kernel) ⟨Nat.le_of_ble_eq_true rfl, Nat.le_of_ble_eq_true rfl⟩ ⟨Nat.le_of_ble_eq_true rfl, Nat.le_of_ble_eq_true rfl⟩ (fun q hq => List.mem_append_left _ ((fun q hq => lw_s6 z zo m a b h q (lw_hsub [3] rfl q hq)) q hq)) rfl rfl (Nat.le_of_ble_eq_true rfl) dL_areTold_408 (st' := [.int r21]) rfl rfl ?_
          refine lm_istore C (lv' := [(0, .ref (m 0)), (1, .ref (b 0)), (2, .ref (b 1)), (4, .ref (b 3)), (10, .int x10), (11, .int y18), (12, .int r19), (13, .int r20), (14, .int r21)]) dL_areTold_411 (by decide) rfl [1, 2, 3, 4, 5, 6, 7, 8, 0] rfl rfl ?_
          refine lm_aload_n C dL_areTold_413 rfl 0 rfl rfl ?_
          refine lm_iload C dL_areTold_414 4 rfl rfl ?_
          refine lm_iconst C (v := (0 : Int32)) dL_areTold_416 (by decide) rfl ?_
          obtain ⟨r22, qr22, hF⟩ := lm_bde hF
          refine lm_callVR C (n := 2) (ci := 6) (m_X6_answer D z zo l m a h x10 (0 : Int32) r22 qr22) gL_areTold_X6_answer rfl (by decide +kernel) ⟨Nat.le_of_ble_eq_true rfl, Nat.le_of_ble_eq_true rfl⟩ ⟨Nat.le_of_ble_eq_true rfl, Nat.le_of_ble_eq_true rfl⟩ 0 rfl rfl (fun q hq => List.mem_append_left _ ((lw_sm z zo m a b h) q hq)) rfl rfl (Nat.le_of_ble_eq_true rfl) dL_areTold_417 (st' := [.int r22]) rfl rfl ?_
          refine lm_iload C dL_areTold_420 6 rfl rfl ?_
          refine lm_iconst C (v := (2 : Int32)) dL_areTold_422 (by decide) rfl ?_
          refine lm_isub C dL_areTold_423 rfl rfl ?_
          refine lm_icmp_ne C (tgt := 586) dL_areTold_424 (by decide) rfl (fun c23 => ?_) (fun c23 => ?_)
          · have hF := lm_brt hF c23
            refine lm_iconst C (v := (0 : Int32)) dL_areTold_586 (by decide) rfl ?_
            refine lm_istore C (lv' := [(0, .ref (m 0)), (1, .ref (b 0)), (2, .ref (b 1)), (4, .ref (b 3)), (7, .int (0 : Int32)), (10, .int x10), (11, .int y18), (12, .int r19), (13, .int r20), (14, .int r21)]) dL_areTold_587 (by decide) rfl [1, 2, 3, 4, 0, 5, 6, 7, 8, 9] rfl rfl ?_
            refine lm_iinc C (lv' := [(0, .ref (m 0)), (1, .ref (b 0)), (2, .ref (b 1)), (4, .ref (b 3)), (7, .int (0 : Int32)), (10, .int (x10 + (1 : Int32))), (11, .int y18), (12, .int r19), (13, .int r20), (14, .int r21)]) (x10 + (1 : Int32)) dL_areTold_589 5 rfl rfl (by decide) rfl [1, 2, 3, 4, 5, 0, 6, 7, 8, 9] rfl rfl ?_
            refine lm_goto C (tgt := 302) dL_areTold_592 (by decide) ?_
            refine lm_lvsub (lv' := [(0, .ref (m 0)), (1, .ref (b 0)), (2, .ref (b 1)), (4, .ref (b 3)), (7, .int (0 : Int32)), (10, .int (x10 + (1 : Int32)))]) [0, 1, 2, 3, 4, 5] rfl ?_
            exact ih t1 t2 νx (0 : Int32) (x10 + (1 : Int32)) hF
          · have hF := lm_brf hF c23
            refine lm_aload_n C dL_areTold_427 rfl 0 rfl rfl ?_
            refine lm_iload C dL_areTold_428 4 rfl rfl ?_
            refine lm_iconst C (v := (1 : Int32)) dL_areTold_430 (by decide) rfl ?_
            obtain ⟨r24, qr24, hF⟩ := lm_bde hF
            refine lm_callVR C (n := 2) (ci := 6) (m_X6_answer D z zo l m a h x10 (1 : Int32) r24 qr24) gL_areTold_X6_answer rfl (by decide +kernel) ⟨Nat.le_of_ble_eq_true rfl, Nat.le_of_ble_eq_true rfl⟩ ⟨Nat.le_of_ble_eq_true rfl, Nat.le_of_ble_eq_true rfl⟩ 0 rfl rfl (fun q hq => List.mem_append_left _ ((lw_sm z zo m a b h) q hq)) rfl rfl (Nat.le_of_ble_eq_true rfl) dL_areTold_431 (st' := [.int r24]) rfl rfl ?_
            refine lm_iload C dL_areTold_434 6 rfl rfl ?_
            refine lm_icmp_ne C (tgt := 586) dL_areTold_436 (by decide) rfl (fun c25 => ?_) (fun c25 => ?_)
            · have hF := lm_brt hF c25
              refine lm_iconst C (v := (0 : Int32)) dL_areTold_586 (by decide) rfl ?_
              refine lm_istore C (lv' := [(0, .ref (m 0)), (1, .ref (b 0)), (2, .ref (b 1)), (4, .ref (b 3)), (7, .int (0 : Int32)), (10, .int x10), (11, .int y18), (12, .int r19), (13, .int r20), (14, .int r21)]) dL_areTold_587 (by decide) rfl [1, 2, 3, 4, 0, 5, 6, 7, 8, 9] rfl rfl ?_
              refine lm_iinc C (lv' := [(0, .ref (m 0)), (1, .ref (b 0)), (2, .ref (b 1)), (4, .ref (b 3)), (7, .int (0 : Int32)), (10, .int (x10 + (1 : Int32))), (11, .int y18), (12, .int r19), (13, .int r20), (14, .int r21)]) (x10 + (1 : Int32)) dL_areTold_589 5 rfl rfl (by decide) rfl [1, 2, 3, 4, 5, 0, 6, 7, 8, 9] rfl rfl ?_
              refine lm_goto C (tgt := 302) dL_areTold_592 (by decide) ?_
              refine lm_lvsub (lv' := [(0, .ref (m 0)), (1, .ref (b 0)), (2, .ref (b 1)), (4, .ref (b 3)), (7, .int (0 : Int32)), (10, .int (x10 + (1 : Int32)))]) [0, 1, 2, 3, 4, 5] rfl ?_
              exact ih t1 t2 νx (0 : Int32) (x10 + (1 : Int32)) hF
            · have hF := lm_brf hF c25
              refine lm_aload_n C dL_areTold_439 rfl 0 rfl rfl ?_
              refine lm_iload C dL_areTold_440 4 rfl rfl ?_
              refine lm_iconst C (v := (2 : Int32)) dL_areTold_442 (by decide) rfl ?_
              obtain ⟨r26, qr26, hF⟩ := lm_bde hF
              refine lm_callVR C (n := 2) (ci := 6) (m_X6_answer D z zo l m a h x10 (2 : Int32) r26 qr26) gL_areTold_X6_answer rfl (by decide +kernel) ⟨Nat.le_of_ble_eq_true rfl, Nat.le_of_ble_eq_true rfl⟩ ⟨Nat.le_of_ble_eq_true rfl, Nat.le_of_ble_eq_true rfl⟩ 0 rfl rfl (fun q hq => List.mem_append_left _ ((lw_sm z zo m a b h) q hq)) rfl rfl (Nat.le_of_ble_eq_true rfl) dL_areTold_443 (st' := [.int r26]) rfl rfl ?_
              refine lm_iload C dL_areTold_446 7 rfl rfl ?_
              refine lm_icmp_ne C (tgt := 586) dL_areTold_448 (by decide) rfl (fun c27 => ?_) (fun c27 => ?_)
              · have hF := lm_brt hF c27
                refine lm_iconst C (v := (0 : Int32)) dL_areTold_586 (by decide) rfl ?_
                refine lm_istore C (lv' := [(0, .ref (m 0)), (1, .ref (b 0)), (2, .ref (b 1)), (4, .ref (b 3)), (7, .int (0 : Int32)), (10, .int x10), (11, .int y18), (12, .int r19), (13, .int r20), (14, .int r21)]) dL_areTold_587 (by decide) rfl [1, 2, 3, 4, 0, 5, 6, 7, 8, 9] rfl rfl ?_
                refine lm_iinc C (lv' := [(0, .ref (m 0)), (1, .ref (b 0)), (2, .ref (b 1)), (4, .ref (b 3)), (7, .int (0 : Int32)), (10, .int (x10 + (1 : Int32))), (11, .int y18), (12, .int r19), (13, .int r20), (14, .int r21)]) (x10 + (1 : Int32)) dL_areTold_589 5 rfl rfl (by decide) rfl [1, 2, 3, 4, 5, 0, 6, 7, 8, 9] rfl rfl ?_
                refine lm_goto C (tgt := 302) dL_areTold_592 (by decide) ?_
                refine lm_lvsub (lv' := [(0, .ref (m 0)), (1, .ref (b 0)), (2, .ref (b 1)), (4, .ref (b 3)), (7, .int (0 : Int32)), (10, .int (x10 + (1 : Int32)))]) [0, 1, 2, 3, 4, 5] rfl ?_
                exact ih t1 t2 νx (0 : Int32) (x10 + (1 : Int32)) hF
              · have hF := lm_brf hF c27
                refine lm_aload_n C dL_areTold_451 rfl 0 rfl rfl ?_
                refine lm_iload C dL_areTold_452 4 rfl rfl ?_
                refine lm_iconst C (v := (3 : Int32)) dL_areTold_454 (by decide) rfl ?_
                obtain ⟨r28, qr28, hF⟩ := lm_bde hF
                refine lm_callVR C (n := 2) (ci := 6) (m_X6_answer D z zo l m a h x10 (3 : Int32) r28 qr28) gL_areTold_X6_answer rfl (by decide +kernel) ⟨Nat.le_of_ble_eq_true rfl, Nat.le_of_ble_eq_true rfl⟩ ⟨Nat.le_of_ble_eq_true rfl, Nat.le_of_ble_eq_true rfl⟩ 0 rfl rfl (fun q hq => List.mem_append_left _ ((lw_sm z zo m a b h) q hq)) rfl rfl (Nat.le_of_ble_eq_true rfl) dL_areTold_455 (st' := [.int r28]) rfl rfl ?_
                refine lm_iload C dL_areTold_458 5 rfl rfl ?_
                refine lm_icmp_ne C (tgt := 586) dL_areTold_460 (by decide) rfl (fun c29 => ?_) (fun c29 => ?_)
                · have hF := lm_brt hF c29
                  refine lm_iconst C (v := (0 : Int32)) dL_areTold_586 (by decide) rfl ?_
                  refine lm_istore C (lv' := [(0, .ref (m 0)), (1, .ref (b 0)), (2, .ref (b 1)), (4, .ref (b 3)), (7, .int (0 : Int32)), (10, .int x10), (11, .int y18), (12, .int r19), (13, .int r20), (14, .int r21)]) dL_areTold_587 (by decide) rfl [1, 2, 3, 4, 0, 5, 6, 7, 8, 9] rfl rfl ?_
                  refine lm_iinc C (lv' := [(0, .ref (m 0)), (1, .ref (b 0)), (2, .ref (b 1)), (4, .ref (b 3)), (7, .int (0 : Int32)), (10, .int (x10 + (1 : Int32))), (11, .int y18), (12, .int r19), (13, .int r20), (14, .int r21)]) (x10 + (1 : Int32)) dL_areTold_589 5 rfl rfl (by decide) rfl [1, 2, 3, 4, 5, 0, 6, 7, 8, 9] rfl rfl ?_
                  refine lm_goto C (tgt := 302) dL_areTold_592 (by decide) ?_
                  refine lm_lvsub (lv' := [(0, .ref (m 0)), (1, .ref (b 0)), (2, .ref (b 1)), (4, .ref (b 3)), (7, .int (0 : Int32)), (10, .int (x10 + (1 : Int32)))]) [0, 1, 2, 3, 4, 5] rfl ?_
                  exact ih t1 t2 νx (0 : Int32) (x10 + (1 : Int32)) hF
                · have hF := lm_brf hF c29
                  refine lm_aload_n C dL_areTold_463 rfl 0 rfl rfl ?_
                  refine lm_iload C dL_areTold_464 4 rfl rfl ?_
                  refine lm_iconst C (v := (0 : Int32)) dL_areTold_466 (by decide) rfl ?_
                  obtain ⟨r30, qr30, hF⟩ := lm_bde hF
                  refine lm_callVR C (n := 2) (ci := 6) (m_X6_remembered D z zo l m a h x10 (0 : Int32) r30 qr30) gL_areTold_X6_remembered rfl (by decide +kernel) ⟨Nat.le_of_ble_eq_true rfl, Nat.le_of_ble_eq_true rfl⟩ ⟨Nat.le_of_ble_eq_true rfl, Nat.le_of_ble_eq_true rfl⟩ 0 rfl rfl (fun q hq => List.mem_append_left _ ((lw_sm z zo m a b h) q hq)) rfl rfl (Nat.le_of_ble_eq_true rfl) dL_areTold_467 (st' := [.int r30]) rfl rfl ?_
                  refine lm_iload C dL_areTold_470 8 rfl rfl ?_
                  refine lm_if_eq C (tgt := 482) dL_areTold_472 (by decide) rfl (fun c31 => ?_) (fun c31 => ?_)
                  · have hF := lm_brt hF c31
                    refine lm_bipush C (v := (-4 : Int32)) dL_areTold_482 (by decide) rfl ?_
                    refine lm_icmp_ne C (tgt := 586) dL_areTold_484 (by decide) rfl (fun c32 => ?_) (fun c32 => ?_)
                    · have hF := lm_brt hF c32
                      refine lm_iconst C (v := (0 : Int32)) dL_areTold_586 (by decide) rfl ?_
                      refine lm_istore C (lv' := [(0, .ref (m 0)), (1, .ref (b 0)), (2, .ref (b 1)), (4, .ref (b 3)), (7, .int (0 : Int32)), (10, .int x10), (11, .int y18), (12, .int r19), (13, .int r20), (14, .int r21)]) dL_areTold_587 (by decide) rfl [1, 2, 3, 4, 0, 5, 6, 7, 8, 9] rfl rfl ?_
                      refine lm_iinc C (lv' := [(0, .ref (m 0)), (1, .ref (b 0)), (2, .ref (b 1)), (4, .ref (b 3)), (7, .int (0 : Int32)), (10, .int (x10 + (1 : Int32))), (11, .int y18), (12, .int r19), (13, .int r20), (14, .int r21)]) (x10 + (1 : Int32)) dL_areTold_589 5 rfl rfl (by decide) rfl [1, 2, 3, 4, 5, 0, 6, 7, 8, 9] rfl rfl ?_
                      refine lm_goto C (tgt := 302) dL_areTold_592 (by decide) ?_
                      refine lm_lvsub (lv' := [(0, .ref (m 0)), (1, .ref (b 0)), (2, .ref (b 1)), (4, .ref (b 3)), (7, .int (0 : Int32)), (10, .int (x10 + (1 : Int32)))]) [0, 1, 2, 3, 4, 5] rfl ?_
                      exact ih t1 t2 νx (0 : Int32) (x10 + (1 : Int32)) hF
                    · have hF := lm_brf hF c32
                      refine lm_aload_n C dL_areTold_487 rfl 0 rfl rfl ?_
                      refine lm_iload C dL_areTold_488 4 rfl rfl ?_
                      refine lm_iconst C (v := (1 : Int32)) dL_areTold_490 (by decide) rfl ?_
                      obtain ⟨r33, qr33, hF⟩ := lm_bde hF
                      refine lm_callVR C (n := 2) (ci := 6) (m_X6_remembered D z zo l m a h x10 (1 : Int32) r33 qr33) gL_areTold_X6_remembered rfl (by decide +kernel) ⟨Nat.le_of_ble_eq_true rfl, Nat.le_of_ble_eq_true rfl⟩ ⟨Nat.le_of_ble_eq_true rfl, Nat.le_of_ble_eq_true rfl⟩ 0 rfl rfl (fun q hq => List.mem_append_left _ ((lw_sm z zo m a b h) q hq)) rfl rfl (Nat.le_of_ble_eq_true rfl) dL_areTold_491 (st' := [.int r33]) rfl rfl ?_
                      refine lm_iload C dL_areTold_494 8 rfl rfl ?_
                      refine lm_if_eq C (tgt := 504) dL_areTold_496 (by decide) rfl (fun c34 => ?_) (fun c34 => ?_)
                      · refine lm_bipush C (v := (-4 : Int32)) dL_areTold_504 (by decide) rfl ?_
                        refine lm_icmp_ne C (tgt := 586) dL_areTold_506 (by decide) rfl (fun c35 => ?_) (fun c35 => ?_)
                        · have hF := lm_brt hF c35
                          refine lm_iconst C (v := (0 : Int32)) dL_areTold_586 (by decide) rfl ?_
                          refine lm_istore C (lv' := [(0, .ref (m 0)), (1, .ref (b 0)), (2, .ref (b 1)), (4, .ref (b 3)), (7, .int (0 : Int32)), (10, .int x10), (11, .int y18), (12, .int r19), (13, .int r20), (14, .int r21)]) dL_areTold_587 (by decide) rfl [1, 2, 3, 4, 0, 5, 6, 7, 8, 9] rfl rfl ?_
                          refine lm_iinc C (lv' := [(0, .ref (m 0)), (1, .ref (b 0)), (2, .ref (b 1)), (4, .ref (b 3)), (7, .int (0 : Int32)), (10, .int (x10 + (1 : Int32))), (11, .int y18), (12, .int r19), (13, .int r20), (14, .int r21)]) (x10 + (1 : Int32)) dL_areTold_589 5 rfl rfl (by decide) rfl [1, 2, 3, 4, 5, 0, 6, 7, 8, 9] rfl rfl ?_
                          refine lm_goto C (tgt := 302) dL_areTold_592 (by decide) ?_
                          refine lm_lvsub (lv' := [(0, .ref (m 0)), (1, .ref (b 0)), (2, .ref (b 1)), (4, .ref (b 3)), (7, .int (0 : Int32)), (10, .int (x10 + (1 : Int32)))]) [0, 1, 2, 3, 4, 5] rfl ?_
                          exact ih t1 t2 νx (0 : Int32) (x10 + (1 : Int32)) hF
                        · have hF := lm_brf hF c35
                          refine lm_aload_n C dL_areTold_509 rfl 0 rfl rfl ?_
                          refine lm_iload C dL_areTold_510 4 rfl rfl ?_
                          refine lm_iconst C (v := (2 : Int32)) dL_areTold_512 (by decide) rfl ?_
                          obtain ⟨r36, qr36, hF⟩ := lm_bde hF
                          refine lm_callVR C (n := 2) (ci := 6) (m_X6_remembered D z zo l m a h x10 (2 : Int32) r36 qr36) gL_areTold_X6_remembered rfl (by decide +kernel) ⟨Nat.le_of_ble_eq_true rfl, Nat.le_of_ble_eq_true rfl⟩ ⟨Nat.le_of_ble_eq_true rfl, Nat.le_of_ble_eq_true rfl⟩ 0 rfl rfl (fun q hq => List.mem_append_left _ ((lw_sm z zo m a b h) q hq)) rfl rfl (Nat.le_of_ble_eq_true rfl) dL_areTold_513 (st' := [.int r36]) rfl rfl ?_
                          refine lm_iload C dL_areTold_516 8 rfl rfl ?_
                          refine lm_if_eq C (tgt := 526) dL_areTold_518 (by decide) rfl (fun c37 => ?_) (fun c37 => ?_)
                          · refine lm_bipush C (v := (-4 : Int32)) dL_areTold_526 (by decide) rfl ?_
                            refine lm_icmp_ne C (tgt := 586) dL_areTold_528 (by decide) rfl (fun c38 => ?_) (fun c38 => ?_)
                            · have hF := lm_brt hF c38
                              refine lm_iconst C (v := (0 : Int32)) dL_areTold_586 (by decide) rfl ?_
                              refine lm_istore C (lv' := [(0, .ref (m 0)), (1, .ref (b 0)), (2, .ref (b 1)), (4, .ref (b 3)), (7, .int (0 : Int32)), (10, .int x10), (11, .int y18), (12, .int r19), (13, .int r20), (14, .int r21)]) dL_areTold_587 (by decide) rfl [1, 2, 3, 4, 0, 5, 6, 7, 8, 9] rfl rfl ?_
                              refine lm_iinc C (lv' := [(0, .ref (m 0)), (1, .ref (b 0)), (2, .ref (b 1)), (4, .ref (b 3)), (7, .int (0 : Int32)), (10, .int (x10 + (1 : Int32))), (11, .int y18), (12, .int r19), (13, .int r20), (14, .int r21)]) (x10 + (1 : Int32)) dL_areTold_589 5 rfl rfl (by decide) rfl [1, 2, 3, 4, 5, 0, 6, 7, 8, 9] rfl rfl ?_
                              refine lm_goto C (tgt := 302) dL_areTold_592 (by decide) ?_
                              refine lm_lvsub (lv' := [(0, .ref (m 0)), (1, .ref (b 0)), (2, .ref (b 1)), (4, .ref (b 3)), (7, .int (0 : Int32)), (10, .int (x10 + (1 : Int32)))]) [0, 1, 2, 3, 4, 5] rfl ?_
                              exact ih t1 t2 νx (0 : Int32) (x10 + (1 : Int32)) hF
                            · have hF := lm_brf hF c38
                              refine lm_aload_n C dL_areTold_531 rfl 0 rfl rfl ?_
                              refine lm_iload C dL_areTold_532 4 rfl rfl ?_
                              refine lm_iconst C (v := (3 : Int32)) dL_areTold_534 (by decide) rfl ?_
                              obtain ⟨r39, qr39, hF⟩ := lm_bde hF
                              refine lm_callVR C (n := 2) (ci := 6) (m_X6_remembered D z zo l m a h x10 (3 : Int32) r39 qr39) gL_areTold_X6_remembered rfl (by decide +kernel) ⟨Nat.le_of_ble_eq_true rfl, Nat.le_of_ble_eq_true rfl⟩ ⟨Nat.le_of_ble_eq_true rfl, Nat.le_of_ble_eq_true rfl⟩ 0 rfl rfl (fun q hq => List.mem_append_left _ ((lw_sm z zo m a b h) q hq)) rfl rfl (Nat.le_of_ble_eq_true rfl) dL_areTold_535 (st' := [.int r39]) rfl rfl ?_
                              refine lm_iload C dL_areTold_538 8 rfl rfl ?_
                              refine lm_if_eq C (tgt := 548) dL_areTold_540 (by decide) rfl (fun c40 => ?_) (fun c40 => ?_)
                              · refine lm_bipush C (v := (-4 : Int32)) dL_areTold_548 (by decide) rfl ?_
                                refine lm_icmp_ne C (tgt := 586) dL_areTold_550 (by decide) rfl (fun c41 => ?_) (fun c41 => ?_)
                                · have hF := lm_brt hF c41
                                  refine lm_iconst C (v := (0 : Int32)) dL_areTold_586 (by decide) rfl ?_
                                  refine lm_istore C (lv' := [(0, .ref (m 0)), (1, .ref (b 0)), (2, .ref (b 1)), (4, .ref (b 3)), (7, .int (0 : Int32)), (10, .int x10), (11, .int y18), (12, .int r19), (13, .int r20), (14, .int r21)]) dL_areTold_587 (by decide) rfl [1, 2, 3, 4, 0, 5, 6, 7, 8, 9] rfl rfl ?_
                                  refine lm_iinc C (lv' := [(0, .ref (m 0)), (1, .ref (b 0)), (2, .ref (b 1)), (4, .ref (b 3)), (7, .int (0 : Int32)), (10, .int (x10 + (1 : Int32))), (11, .int y18), (12, .int r19), (13, .int r20), (14, .int r21)]) (x10 + (1 : Int32)) dL_areTold_589 5 rfl rfl (by decide) rfl [1, 2, 3, 4, 5, 0, 6, 7, 8, 9] rfl rfl ?_
                                  refine lm_goto C (tgt := 302) dL_areTold_592 (by decide) ?_
                                  refine lm_lvsub (lv' := [(0, .ref (m 0)), (1, .ref (b 0)), (2, .ref (b 1)), (4, .ref (b 3)), (7, .int (0 : Int32)), (10, .int (x10 + (1 : Int32)))]) [0, 1, 2, 3, 4, 5] rfl ?_
                                  exact ih t1 t2 νx (0 : Int32) (x10 + (1 : Int32)) hF
                                · have hF := lm_brf hF c41
                                  refine lm_iload C dL_areTold_553 8 rfl rfl ?_
                                  refine lm_if_ne C (tgt := 582) dL_areTold_555 (by decide) rfl (fun c42 => ?_) (fun c42 => ?_)
                                  · exact (by simp_all : False).elim
                                  · refine lm_aload_n C dL_areTold_558 rfl 0 rfl rfl ?_
                                    refine lm_iload C dL_areTold_559 4 rfl rfl ?_
                                    refine lm_iconst C (v := (4 : Int32)) dL_areTold_561 (by decide) rfl ?_
                                    obtain ⟨r43, qr43, hF⟩ := lm_bde hF
                                    refine lm_callVR C (n := 2) (ci := 6) (m_X6_remembered D z zo l m a h x10 (4 : Int32) r43 qr43) gL_areTold_X6_remembered rfl (by decide +kernel) ⟨Nat.le_of_ble_eq_true rfl, Nat.le_of_ble_eq_true rfl⟩ ⟨Nat.le_of_ble_eq_true rfl, Nat.le_of_ble_eq_true rfl⟩ 0 rfl rfl (fun q hq => List.mem_append_left _ ((lw_sm z zo m a b h) q hq)) rfl rfl (Nat.le_of_ble_eq_true rfl) dL_areTold_562 (st' := [.int r43]) rfl rfl ?_
                                    refine lm_bipush C (v := (-4 : Int32)) dL_areTold_565 (by decide) rfl ?_
                                    refine lm_icmp_ne C (tgt := 586) dL_areTold_567 (by decide) rfl (fun c44 => ?_) (fun c44 => ?_)
                                    · have hF := lm_brt hF c44
                                      refine lm_iconst C (v := (0 : Int32)) dL_areTold_586 (by decide) rfl ?_
                                      refine lm_istore C (lv' := [(0, .ref (m 0)), (1, .ref (b 0)), (2, .ref (b 1)), (4, .ref (b 3)), (7, .int (0 : Int32)), (10, .int x10), (11, .int y18), (12, .int r19), (13, .int r20), (14, .int r21)]) dL_areTold_587 (by decide) rfl [1, 2, 3, 4, 0, 5, 6, 7, 8, 9] rfl rfl ?_
                                      refine lm_iinc C (lv' := [(0, .ref (m 0)), (1, .ref (b 0)), (2, .ref (b 1)), (4, .ref (b 3)), (7, .int (0 : Int32)), (10, .int (x10 + (1 : Int32))), (11, .int y18), (12, .int r19), (13, .int r20), (14, .int r21)]) (x10 + (1 : Int32)) dL_areTold_589 5 rfl rfl (by decide) rfl [1, 2, 3, 4, 5, 0, 6, 7, 8, 9] rfl rfl ?_
                                      refine lm_goto C (tgt := 302) dL_areTold_592 (by decide) ?_
                                      refine lm_lvsub (lv' := [(0, .ref (m 0)), (1, .ref (b 0)), (2, .ref (b 1)), (4, .ref (b 3)), (7, .int (0 : Int32)), (10, .int (x10 + (1 : Int32)))]) [0, 1, 2, 3, 4, 5] rfl ?_
                                      exact ih t1 t2 νx (0 : Int32) (x10 + (1 : Int32)) hF
                                    · have hF := lm_brf hF c44
                                      refine lm_aload_n C dL_areTold_570 rfl 0 rfl rfl ?_
                                      refine lm_iload C dL_areTold_571 4 rfl rfl ?_
                                      refine lm_iconst C (v := (5 : Int32)) dL_areTold_573 (by decide) rfl ?_
                                      obtain ⟨r45, qr45, hF⟩ := lm_bde hF
                                      refine lm_callVR C (n := 2) (ci := 6) (m_X6_remembered D z zo l m a h x10 (5 : Int32) r45 qr45) gL_areTold_X6_remembered rfl (by decide +kernel) ⟨Nat.le_of_ble_eq_true rfl, Nat.le_of_ble_eq_true rfl⟩ ⟨Nat.le_of_ble_eq_true rfl, Nat.le_of_ble_eq_true rfl⟩ 0 rfl rfl (fun q hq => List.mem_append_left _ ((lw_sm z zo m a b h) q hq)) rfl rfl (Nat.le_of_ble_eq_true rfl) dL_areTold_574 (st' := [.int r45]) rfl rfl ?_
                                      refine lm_bipush C (v := (-4 : Int32)) dL_areTold_577 (by decide) rfl ?_
                                      refine lm_icmp_ne C (tgt := 586) dL_areTold_579 (by decide) rfl (fun c46 => ?_) (fun c46 => ?_)
                                      · have hF := lm_brt hF c46
                                        refine lm_iconst C (v := (0 : Int32)) dL_areTold_586 (by decide) rfl ?_
                                        refine lm_istore C (lv' := [(0, .ref (m 0)), (1, .ref (b 0)), (2, .ref (b 1)), (4, .ref (b 3)), (7, .int (0 : Int32)), (10, .int x10), (11, .int y18), (12, .int r19), (13, .int r20), (14, .int r21)]) dL_areTold_587 (by decide) rfl [1, 2, 3, 4, 0, 5, 6, 7, 8, 9] rfl rfl ?_
                                        refine lm_iinc C (lv' := [(0, .ref (m 0)), (1, .ref (b 0)), (2, .ref (b 1)), (4, .ref (b 3)), (7, .int (0 : Int32)), (10, .int (x10 + (1 : Int32))), (11, .int y18), (12, .int r19), (13, .int r20), (14, .int r21)]) (x10 + (1 : Int32)) dL_areTold_589 5 rfl rfl (by decide) rfl [1, 2, 3, 4, 5, 0, 6, 7, 8, 9] rfl rfl ?_
                                        refine lm_goto C (tgt := 302) dL_areTold_592 (by decide) ?_
                                        refine lm_lvsub (lv' := [(0, .ref (m 0)), (1, .ref (b 0)), (2, .ref (b 1)), (4, .ref (b 3)), (7, .int (0 : Int32)), (10, .int (x10 + (1 : Int32)))]) [0, 1, 2, 3, 4, 5] rfl ?_
                                        exact ih t1 t2 νx (0 : Int32) (x10 + (1 : Int32)) hF
                                      · have hF := lm_brf hF c46
                                        refine lm_iconst C (v := (1 : Int32)) dL_areTold_582 (by decide) rfl ?_
                                        refine lm_goto C (tgt := 587) dL_areTold_583 (by decide) ?_
                                        refine lm_istore C (lv' := [(0, .ref (m 0)), (1, .ref (b 0)), (2, .ref (b 1)), (4, .ref (b 3)), (7, .int (1 : Int32)), (10, .int x10), (11, .int y18), (12, .int r19), (13, .int r20), (14, .int r21)]) dL_areTold_587 (by decide) rfl [1, 2, 3, 4, 0, 5, 6, 7, 8, 9] rfl rfl ?_
                                        refine lm_iinc C (lv' := [(0, .ref (m 0)), (1, .ref (b 0)), (2, .ref (b 1)), (4, .ref (b 3)), (7, .int (1 : Int32)), (10, .int (x10 + (1 : Int32))), (11, .int y18), (12, .int r19), (13, .int r20), (14, .int r21)]) (x10 + (1 : Int32)) dL_areTold_589 5 rfl rfl (by decide) rfl [1, 2, 3, 4, 5, 0, 6, 7, 8, 9] rfl rfl ?_
                                        refine lm_goto C (tgt := 302) dL_areTold_592 (by decide) ?_
                                        refine lm_lvsub (lv' := [(0, .ref (m 0)), (1, .ref (b 0)), (2, .ref (b 1)), (4, .ref (b 3)), (7, .int (1 : Int32)), (10, .int (x10 + (1 : Int32)))]) [0, 1, 2, 3, 4, 5] rfl ?_
                                        exact ih t1 t2 νx (1 : Int32) (x10 + (1 : Int32)) hF
                              · exact (by simp_all : False).elim
                          · exact (by simp_all : False).elim
                      · exact (by simp_all : False).elim
                  · have hF := lm_brf hF c31
                    refine lm_iload C dL_areTold_475 6 rfl rfl ?_
                    refine lm_iconst C (v := (2 : Int32)) dL_areTold_477 (by decide) rfl ?_
                    refine lm_isub C dL_areTold_478 rfl rfl ?_
                    refine lm_goto C (tgt := 484) dL_areTold_479 (by decide) ?_
                    refine lm_icmp_ne C (tgt := 586) dL_areTold_484 (by decide) rfl (fun c47 => ?_) (fun c47 => ?_)
                    · have hF := lm_brt hF c47
                      refine lm_iconst C (v := (0 : Int32)) dL_areTold_586 (by decide) rfl ?_
                      refine lm_istore C (lv' := [(0, .ref (m 0)), (1, .ref (b 0)), (2, .ref (b 1)), (4, .ref (b 3)), (7, .int (0 : Int32)), (10, .int x10), (11, .int y18), (12, .int r19), (13, .int r20), (14, .int r21)]) dL_areTold_587 (by decide) rfl [1, 2, 3, 4, 0, 5, 6, 7, 8, 9] rfl rfl ?_
                      refine lm_iinc C (lv' := [(0, .ref (m 0)), (1, .ref (b 0)), (2, .ref (b 1)), (4, .ref (b 3)), (7, .int (0 : Int32)), (10, .int (x10 + (1 : Int32))), (11, .int y18), (12, .int r19), (13, .int r20), (14, .int r21)]) (x10 + (1 : Int32)) dL_areTold_589 5 rfl rfl (by decide) rfl [1, 2, 3, 4, 5, 0, 6, 7, 8, 9] rfl rfl ?_
                      refine lm_goto C (tgt := 302) dL_areTold_592 (by decide) ?_
                      refine lm_lvsub (lv' := [(0, .ref (m 0)), (1, .ref (b 0)), (2, .ref (b 1)), (4, .ref (b 3)), (7, .int (0 : Int32)), (10, .int (x10 + (1 : Int32)))]) [0, 1, 2, 3, 4, 5] rfl ?_
                      exact ih t1 t2 νx (0 : Int32) (x10 + (1 : Int32)) hF
                    · have hF := lm_brf hF c47
                      refine lm_aload_n C dL_areTold_487 rfl 0 rfl rfl ?_
                      refine lm_iload C dL_areTold_488 4 rfl rfl ?_
                      refine lm_iconst C (v := (1 : Int32)) dL_areTold_490 (by decide) rfl ?_
                      obtain ⟨r48, qr48, hF⟩ := lm_bde hF
                      refine lm_callVR C (n := 2) (ci := 6) (m_X6_remembered D z zo l m a h x10 (1 : Int32) r48 qr48) gL_areTold_X6_remembered rfl (by decide +kernel) ⟨Nat.le_of_ble_eq_true rfl, Nat.le_of_ble_eq_true rfl⟩ ⟨Nat.le_of_ble_eq_true rfl, Nat.le_of_ble_eq_true rfl⟩ 0 rfl rfl (fun q hq => List.mem_append_left _ ((lw_sm z zo m a b h) q hq)) rfl rfl (Nat.le_of_ble_eq_true rfl) dL_areTold_491 (st' := [.int r48]) rfl rfl ?_
                      refine lm_iload C dL_areTold_494 8 rfl rfl ?_
                      refine lm_if_eq C (tgt := 504) dL_areTold_496 (by decide) rfl (fun c49 => ?_) (fun c49 => ?_)
                      · exact (by simp_all : False).elim
                      · refine lm_iload C dL_areTold_499 6 rfl rfl ?_
                        refine lm_goto C (tgt := 506) dL_areTold_501 (by decide) ?_
                        refine lm_icmp_ne C (tgt := 586) dL_areTold_506 (by decide) rfl (fun c50 => ?_) (fun c50 => ?_)
                        · have hF := lm_brt hF c50
                          refine lm_iconst C (v := (0 : Int32)) dL_areTold_586 (by decide) rfl ?_
                          refine lm_istore C (lv' := [(0, .ref (m 0)), (1, .ref (b 0)), (2, .ref (b 1)), (4, .ref (b 3)), (7, .int (0 : Int32)), (10, .int x10), (11, .int y18), (12, .int r19), (13, .int r20), (14, .int r21)]) dL_areTold_587 (by decide) rfl [1, 2, 3, 4, 0, 5, 6, 7, 8, 9] rfl rfl ?_
                          refine lm_iinc C (lv' := [(0, .ref (m 0)), (1, .ref (b 0)), (2, .ref (b 1)), (4, .ref (b 3)), (7, .int (0 : Int32)), (10, .int (x10 + (1 : Int32))), (11, .int y18), (12, .int r19), (13, .int r20), (14, .int r21)]) (x10 + (1 : Int32)) dL_areTold_589 5 rfl rfl (by decide) rfl [1, 2, 3, 4, 5, 0, 6, 7, 8, 9] rfl rfl ?_
                          refine lm_goto C (tgt := 302) dL_areTold_592 (by decide) ?_
                          refine lm_lvsub (lv' := [(0, .ref (m 0)), (1, .ref (b 0)), (2, .ref (b 1)), (4, .ref (b 3)), (7, .int (0 : Int32)), (10, .int (x10 + (1 : Int32)))]) [0, 1, 2, 3, 4, 5] rfl ?_
                          exact ih t1 t2 νx (0 : Int32) (x10 + (1 : Int32)) hF
                        · have hF := lm_brf hF c50
                          refine lm_aload_n C dL_areTold_509 rfl 0 rfl rfl ?_
                          refine lm_iload C dL_areTold_510 4 rfl rfl ?_
                          refine lm_iconst C (v := (2 : Int32)) dL_areTold_512 (by decide) rfl ?_
                          obtain ⟨r51, qr51, hF⟩ := lm_bde hF
                          refine lm_callVR C (n := 2) (ci := 6) (m_X6_remembered D z zo l m a h x10 (2 : Int32) r51 qr51) gL_areTold_X6_remembered rfl (by decide +kernel) ⟨Nat.le_of_ble_eq_true rfl, Nat.le_of_ble_eq_true rfl⟩ ⟨Nat.le_of_ble_eq_true rfl, Nat.le_of_ble_eq_true rfl⟩ 0 rfl rfl (fun q hq => List.mem_append_left _ ((lw_sm z zo m a b h) q hq)) rfl rfl (Nat.le_of_ble_eq_true rfl) dL_areTold_513 (st' := [.int r51]) rfl rfl ?_
                          refine lm_iload C dL_areTold_516 8 rfl rfl ?_
                          refine lm_if_eq C (tgt := 526) dL_areTold_518 (by decide) rfl (fun c52 => ?_) (fun c52 => ?_)
                          · exact (by simp_all : False).elim
                          · refine lm_iload C dL_areTold_521 7 rfl rfl ?_
                            refine lm_goto C (tgt := 528) dL_areTold_523 (by decide) ?_
                            refine lm_icmp_ne C (tgt := 586) dL_areTold_528 (by decide) rfl (fun c53 => ?_) (fun c53 => ?_)
                            · have hF := lm_brt hF c53
                              refine lm_iconst C (v := (0 : Int32)) dL_areTold_586 (by decide) rfl ?_
                              refine lm_istore C (lv' := [(0, .ref (m 0)), (1, .ref (b 0)), (2, .ref (b 1)), (4, .ref (b 3)), (7, .int (0 : Int32)), (10, .int x10), (11, .int y18), (12, .int r19), (13, .int r20), (14, .int r21)]) dL_areTold_587 (by decide) rfl [1, 2, 3, 4, 0, 5, 6, 7, 8, 9] rfl rfl ?_
                              refine lm_iinc C (lv' := [(0, .ref (m 0)), (1, .ref (b 0)), (2, .ref (b 1)), (4, .ref (b 3)), (7, .int (0 : Int32)), (10, .int (x10 + (1 : Int32))), (11, .int y18), (12, .int r19), (13, .int r20), (14, .int r21)]) (x10 + (1 : Int32)) dL_areTold_589 5 rfl rfl (by decide) rfl [1, 2, 3, 4, 5, 0, 6, 7, 8, 9] rfl rfl ?_
                              refine lm_goto C (tgt := 302) dL_areTold_592 (by decide) ?_
                              refine lm_lvsub (lv' := [(0, .ref (m 0)), (1, .ref (b 0)), (2, .ref (b 1)), (4, .ref (b 3)), (7, .int (0 : Int32)), (10, .int (x10 + (1 : Int32)))]) [0, 1, 2, 3, 4, 5] rfl ?_
                              exact ih t1 t2 νx (0 : Int32) (x10 + (1 : Int32)) hF
                            · have hF := lm_brf hF c53
                              refine lm_aload_n C dL_areTold_531 rfl 0 rfl rfl ?_
                              refine lm_iload C dL_areTold_532 4 rfl rfl ?_
                              refine lm_iconst C (v := (3 : Int32)) dL_areTold_534 (by decide) rfl ?_
                              obtain ⟨r54, qr54, hF⟩ := lm_bde hF
                              refine lm_callVR C (n := 2) (ci := 6) (m_X6_remembered D z zo l m a h x10 (3 : Int32) r54 qr54) gL_areTold_X6_remembered rfl (by decide +kernel) ⟨Nat.le_of_ble_eq_true rfl, Nat.le_of_ble_eq_true rfl⟩ ⟨Nat.le_of_ble_eq_true rfl, Nat.le_of_ble_eq_true rfl⟩ 0 rfl rfl (fun q hq => List.mem_append_left _ ((lw_sm z zo m a b h) q hq)) rfl rfl (Nat.le_of_ble_eq_true rfl) dL_areTold_535 (st' := [.int r54]) rfl rfl ?_
                              refine lm_iload C dL_areTold_538 8 rfl rfl ?_
                              refine lm_if_eq C (tgt := 548) dL_areTold_540 (by decide) rfl (fun c55 => ?_) (fun c55 => ?_)
                              · exact (by simp_all : False).elim
                              · refine lm_iload C dL_areTold_543 5 rfl rfl ?_
                                refine lm_goto C (tgt := 550) dL_areTold_545 (by decide) ?_
                                refine lm_icmp_ne C (tgt := 586) dL_areTold_550 (by decide) rfl (fun c56 => ?_) (fun c56 => ?_)
                                · have hF := lm_brt hF c56
                                  refine lm_iconst C (v := (0 : Int32)) dL_areTold_586 (by decide) rfl ?_
                                  refine lm_istore C (lv' := [(0, .ref (m 0)), (1, .ref (b 0)), (2, .ref (b 1)), (4, .ref (b 3)), (7, .int (0 : Int32)), (10, .int x10), (11, .int y18), (12, .int r19), (13, .int r20), (14, .int r21)]) dL_areTold_587 (by decide) rfl [1, 2, 3, 4, 0, 5, 6, 7, 8, 9] rfl rfl ?_
                                  refine lm_iinc C (lv' := [(0, .ref (m 0)), (1, .ref (b 0)), (2, .ref (b 1)), (4, .ref (b 3)), (7, .int (0 : Int32)), (10, .int (x10 + (1 : Int32))), (11, .int y18), (12, .int r19), (13, .int r20), (14, .int r21)]) (x10 + (1 : Int32)) dL_areTold_589 5 rfl rfl (by decide) rfl [1, 2, 3, 4, 5, 0, 6, 7, 8, 9] rfl rfl ?_
                                  refine lm_goto C (tgt := 302) dL_areTold_592 (by decide) ?_
                                  refine lm_lvsub (lv' := [(0, .ref (m 0)), (1, .ref (b 0)), (2, .ref (b 1)), (4, .ref (b 3)), (7, .int (0 : Int32)), (10, .int (x10 + (1 : Int32)))]) [0, 1, 2, 3, 4, 5] rfl ?_
                                  exact ih t1 t2 νx (0 : Int32) (x10 + (1 : Int32)) hF
                                · have hF := lm_brf hF c56
                                  refine lm_iload C dL_areTold_553 8 rfl rfl ?_
                                  refine lm_if_ne C (tgt := 582) dL_areTold_555 (by decide) rfl (fun c57 => ?_) (fun c57 => ?_)
                                  · refine lm_iconst C (v := (1 : Int32)) dL_areTold_582 (by decide) rfl ?_
                                    refine lm_goto C (tgt := 587) dL_areTold_583 (by decide) ?_
                                    refine lm_istore C (lv' := [(0, .ref (m 0)), (1, .ref (b 0)), (2, .ref (b 1)), (4, .ref (b 3)), (7, .int (1 : Int32)), (10, .int x10), (11, .int y18), (12, .int r19), (13, .int r20), (14, .int r21)]) dL_areTold_587 (by decide) rfl [1, 2, 3, 4, 0, 5, 6, 7, 8, 9] rfl rfl ?_
                                    refine lm_iinc C (lv' := [(0, .ref (m 0)), (1, .ref (b 0)), (2, .ref (b 1)), (4, .ref (b 3)), (7, .int (1 : Int32)), (10, .int (x10 + (1 : Int32))), (11, .int y18), (12, .int r19), (13, .int r20), (14, .int r21)]) (x10 + (1 : Int32)) dL_areTold_589 5 rfl rfl (by decide) rfl [1, 2, 3, 4, 5, 0, 6, 7, 8, 9] rfl rfl ?_
                                    refine lm_goto C (tgt := 302) dL_areTold_592 (by decide) ?_
                                    refine lm_lvsub (lv' := [(0, .ref (m 0)), (1, .ref (b 0)), (2, .ref (b 1)), (4, .ref (b 3)), (7, .int (1 : Int32)), (10, .int (x10 + (1 : Int32)))]) [0, 1, 2, 3, 4, 5] rfl ?_
                                    exact ih t1 t2 νx (1 : Int32) (x10 + (1 : Int32)) hF
                                  · exact (by simp_all : False).elim
  have loop_217 : ∀ (n : Nat) (t1 t2 : Nat) (νx : Hp) (x7 : Int32) (x10 : Int32), F_L_areTold_L217 n h νx x7 x10 = some r → lm_St p l e ({ frames := 3, cells := 2, slots := 20, locals := 68 }) s m_ args below meth c D (va_A (lwMW z zo m a b h) s.heap.size) 15 2 20 (lm_EndA below D (some (.int r)) (lwMW z zo m a b h) args s 2 20) false (lwMW z zo m a b h ++ nw2W z t1 t2 νx) 217 [(0, .ref (m 0)), (1, .ref (b 0)), (2, .ref (b 1)), (4, .ref (b 3)), (6, .ref (b 5)), (7, .int x7), (8, .ref t1), (9, .ref t2), (10, .int x10)] [] := by
    intro n
    induction n with
    | zero => intro t1 t2 νx x7 x10 hF; cases (show (none : Option _) = some _ from hF)
    | succ n ih =>
      intro t1 t2 νx x7 x10 hF
      rw [F_L_areTold_L217] at hF
      refine lm_iload C dL_areTold_217 8 rfl rfl ?_
      refine lm_aload C dL_areTold_219 3 rfl rfl ?_
      obtain ⟨r5, qr5, hF⟩ := lm_bde hF
      refine lm_callSR C (n := 1) (m_L_many D z zo l (lw_f1 (b 3)) (lw_f1 (h 9 3)) r5 qr5) gL_areTold_L_many rfl (by decide +kernel) ⟨Nat.le_of_ble_eq_true rfl, Nat.le_of_ble_eq_true rfl⟩ ⟨Nat.le_of_ble_eq_true rfl, Nat.le_of_ble_eq_true rfl⟩ (fun q hq => List.mem_append_left _ ((fun q hq => lw_s6 z zo m a b h q (lw_hsub [3] rfl q hq)) q hq)) rfl rfl (Nat.le_of_ble_eq_true rfl) dL_areTold_221 (st' := [.int r5, .int x10]) rfl rfl ?_
      refine lm_icmp_ge C (tgt := 299) dL_areTold_224 (by decide) rfl (fun c6 => ?_) (fun c6 => ?_)
      · have hF := lm_brt hF c6
        refine lm_iconst C (v := (0 : Int32)) dL_areTold_299 (by decide) rfl ?_
        refine lm_istore C (lv' := [(0, .ref (m 0)), (1, .ref (b 0)), (2, .ref (b 1)), (4, .ref (b 3)), (6, .ref (b 5)), (7, .int x7), (8, .ref t1), (9, .ref t2), (10, .int (0 : Int32))]) dL_areTold_300 (by decide) rfl [1, 2, 3, 4, 5, 6, 7, 8, 0] rfl rfl ?_
        refine lm_lvsub (lv' := [(0, .ref (m 0)), (1, .ref (b 0)), (2, .ref (b 1)), (4, .ref (b 3)), (7, .int x7), (10, .int (0 : Int32))]) [0, 1, 2, 3, 5, 8] rfl ?_
        exact loop_302 1000 t1 t2 νx x7 (0 : Int32) hF
      · have hF := lm_brf hF c6
        refine lm_iload C dL_areTold_227 5 rfl rfl ?_
        refine lm_if_eq C (tgt := 299) dL_areTold_229 (by decide) rfl (fun c58 => ?_) (fun c58 => ?_)
        · have hF := lm_brt hF c58
          refine lm_iconst C (v := (0 : Int32)) dL_areTold_299 (by decide) rfl ?_
          refine lm_istore C (lv' := [(0, .ref (m 0)), (1, .ref (b 0)), (2, .ref (b 1)), (4, .ref (b 3)), (6, .ref (b 5)), (7, .int x7), (8, .ref t1), (9, .ref t2), (10, .int (0 : Int32))]) dL_areTold_300 (by decide) rfl [1, 2, 3, 4, 5, 6, 7, 8, 0] rfl rfl ?_
          refine lm_lvsub (lv' := [(0, .ref (m 0)), (1, .ref (b 0)), (2, .ref (b 1)), (4, .ref (b 3)), (7, .int x7), (10, .int (0 : Int32))]) [0, 1, 2, 3, 5, 8] rfl ?_
          exact loop_302 1000 t1 t2 νx x7 (0 : Int32) hF
        · have hF := lm_brf hF c58
          refine lm_aload_n C dL_areTold_232 rfl 1 rfl rfl ?_
          refine lm_aload C dL_areTold_233 6 rfl rfl ?_
          refine lm_aload C dL_areTold_235 7 rfl rfl ?_
          refine lm_aload C dL_areTold_237 4 rfl rfl ?_
          refine lm_iconst C (v := (-1 : Int32)) dL_areTold_239 (by decide) rfl ?_
          obtain ⟨r59, qr59, hF⟩ := lm_bde hF
          refine lm_callSR C (n := 5) (m_L_first D z zo l (lw_f4 (b 0) t1 t2 (b 5)) (lw_f4 (h 9 0) (νx 0) (νx 1) (h 9 5)) (-1 : Int32) r59 qr59) gL_areTold_L_first rfl (by decide +kernel) ⟨Nat.le_of_ble_eq_true rfl, Nat.le_of_ble_eq_true rfl⟩ ⟨Nat.le_of_ble_eq_true rfl, Nat.le_of_ble_eq_true rfl⟩ (lw_s4 z zo m a b h t1 t2 νx) rfl rfl (Nat.le_of_ble_eq_true rfl) dL_areTold_240 (st' := [.int r59]) rfl rfl ?_
          refine lm_istore C (lv' := [(0, .ref (m 0)), (1, .ref (b 0)), (2, .ref (b 1)), (4, .ref (b 3)), (6, .ref (b 5)), (7, .int x7), (8, .ref t1), (9, .ref t2), (10, .int x10), (11, .int r59)]) dL_areTold_243 (by decide) rfl [1, 2, 3, 4, 5, 6, 7, 8, 9, 0] rfl rfl ?_
          refine lm_aload_n C dL_areTold_245 rfl 0 rfl rfl ?_
          refine lm_iload C dL_areTold_246 9 rfl rfl ?_
          refine lm_iconst C (v := (5 : Int32)) dL_areTold_248 (by decide) rfl ?_
          obtain ⟨r60, qr60, hF⟩ := lm_bde hF
          refine lm_callVR C (n := 2) (ci := 6) (m_X6_remembered D z zo l m a h r59 (5 : Int32) r60 qr60) gL_areTold_X6_remembered rfl (by decide +kernel) ⟨Nat.le_of_ble_eq_true rfl, Nat.le_of_ble_eq_true rfl⟩ ⟨Nat.le_of_ble_eq_true rfl, Nat.le_of_ble_eq_true rfl⟩ 0 rfl rfl (fun q hq => List.mem_append_left _ ((lw_sm z zo m a b h) q hq)) rfl rfl (Nat.le_of_ble_eq_true rfl) dL_areTold_249 (st' := [.int r60]) rfl rfl ?_
          refine lm_iload C dL_areTold_252 8 rfl rfl ?_
          refine lm_icmp_ne C (tgt := 276) dL_areTold_254 (by decide) rfl (fun c61 => ?_) (fun c61 => ?_)
          · have hF := lm_brt hF c61
            refine lm_iconst C (v := (0 : Int32)) dL_areTold_276 (by decide) rfl ?_
            refine lm_istore C (lv' := [(0, .ref (m 0)), (1, .ref (b 0)), (2, .ref (b 1)), (4, .ref (b 3)), (6, .ref (b 5)), (7, .int (0 : Int32)), (8, .ref t1), (9, .ref t2), (10, .int x10), (11, .int r59)]) dL_areTold_277 (by decide) rfl [1, 2, 3, 4, 5, 0, 6, 7, 8, 9] rfl rfl ?_
            refine lm_aload C dL_areTold_279 6 rfl rfl ?_
            refine lm_iload C dL_areTold_281 9 rfl rfl ?_
            obtain ⟨τ62, qτ62, hF⟩ := lm_bde hF
            obtain ⟨ν63, eν63, hF⟩ := lm_lte hF
            refine lm_callS C (n := 2) (w' := (lwMW z zo m a b h ++ nw2W z t1 t2 ν63)) hA (m_L_out D z zo l (lw_f1 t1) (lw_f1 (νx 0)) r59 τ62 qτ62) gL_areTold_L_out rfl (by decide +kernel) ⟨Nat.le_of_ble_eq_true rfl, Nat.le_of_ble_eq_true rfl⟩ ⟨Nat.le_of_ble_eq_true rfl, Nat.le_of_ble_eq_true rfl⟩ (lw_gn0 z t1 t2 νx) (by rw [← eν63]; exact lw_pn0 z t1 t2 νx τ62) rfl rfl (Nat.le_of_ble_eq_true rfl) dL_areTold_283 (st' := []) rfl rfl ?_
            refine lm_aload C dL_areTold_286 7 rfl rfl ?_
            refine lm_iload C dL_areTold_288 9 rfl rfl ?_
            obtain ⟨τ64, qτ64, hF⟩ := lm_bde hF
            obtain ⟨ν65, eν65, hF⟩ := lm_lte hF
            refine lm_callS C (n := 2) (w' := (lwMW z zo m a b h ++ nw2W z t1 t2 ν65)) hA (m_L_out D z zo l (lw_f1 t2) (lw_f1 (ν63 1)) r59 τ64 qτ64) gL_areTold_L_out rfl (by decide +kernel) ⟨Nat.le_of_ble_eq_true rfl, Nat.le_of_ble_eq_true rfl⟩ ⟨Nat.le_of_ble_eq_true rfl, Nat.le_of_ble_eq_true rfl⟩ (lw_gn1 z t1 t2 ν63) (by rw [← eν65]; exact lw_pn1 z t1 t2 ν63 τ64) rfl rfl (Nat.le_of_ble_eq_true rfl) dL_areTold_290 (st' := []) rfl rfl ?_
            refine lm_iinc C (lv' := [(0, .ref (m 0)), (1, .ref (b 0)), (2, .ref (b 1)), (4, .ref (b 3)), (6, .ref (b 5)), (7, .int (0 : Int32)), (8, .ref t1), (9, .ref t2), (10, .int (x10 + (1 : Int32))), (11, .int r59)]) (x10 + (1 : Int32)) dL_areTold_293 8 rfl rfl (by decide) rfl [1, 2, 3, 4, 5, 6, 7, 8, 0, 9] rfl rfl ?_
            refine lm_goto C (tgt := 217) dL_areTold_296 (by decide) ?_
            refine lm_lvsub (lv' := [(0, .ref (m 0)), (1, .ref (b 0)), (2, .ref (b 1)), (4, .ref (b 3)), (6, .ref (b 5)), (7, .int (0 : Int32)), (8, .ref t1), (9, .ref t2), (10, .int (x10 + (1 : Int32)))]) [0, 1, 2, 3, 4, 5, 6, 7, 8] rfl ?_
            exact ih t1 t2 ν65 (0 : Int32) (x10 + (1 : Int32)) hF
          · have hF := lm_brf hF c61
            refine lm_aload_n C dL_areTold_257 rfl 0 rfl rfl ?_
            refine lm_iload C dL_areTold_258 9 rfl rfl ?_
            refine lm_iconst C (v := (4 : Int32)) dL_areTold_260 (by decide) rfl ?_
            obtain ⟨r66, qr66, hF⟩ := lm_bde hF
            refine lm_callVR C (n := 2) (ci := 6) (m_X6_remembered D z zo l m a h r59 (4 : Int32) r66 qr66) gL_areTold_X6_remembered rfl (by decide +kernel) ⟨Nat.le_of_ble_eq_true rfl, Nat.le_of_ble_eq_true rfl⟩ ⟨Nat.le_of_ble_eq_true rfl, Nat.le_of_ble_eq_true rfl⟩ 0 rfl rfl (fun q hq => List.mem_append_left _ ((lw_sm z zo m a b h) q hq)) rfl rfl (Nat.le_of_ble_eq_true rfl) dL_areTold_261 (st' := [.int r66]) rfl rfl ?_
            refine lm_aload C dL_areTold_264 4 rfl rfl ?_
            refine lm_iload C dL_areTold_266 9 rfl rfl ?_
            obtain ⟨b67, hF⟩ := lm_gie hF
            refine lm_iald C (v := (h 9 5 r59.toNatClampNeg)) 146 rfl b67 rfl dL_areTold_268 rfl ?_
            refine lm_icmp_ne C (tgt := 276) dL_areTold_269 (by decide) rfl (fun c68 => ?_) (fun c68 => ?_)
            · have hF := lm_brt hF c68
              refine lm_iconst C (v := (0 : Int32)) dL_areTold_276 (by decide) rfl ?_
              refine lm_istore C (lv' := [(0, .ref (m 0)), (1, .ref (b 0)), (2, .ref (b 1)), (4, .ref (b 3)), (6, .ref (b 5)), (7, .int (0 : Int32)), (8, .ref t1), (9, .ref t2), (10, .int x10), (11, .int r59)]) dL_areTold_277 (by decide) rfl [1, 2, 3, 4, 5, 0, 6, 7, 8, 9] rfl rfl ?_
              refine lm_aload C dL_areTold_279 6 rfl rfl ?_
              refine lm_iload C dL_areTold_281 9 rfl rfl ?_
              obtain ⟨τ69, qτ69, hF⟩ := lm_bde hF
              obtain ⟨ν70, eν70, hF⟩ := lm_lte hF
              refine lm_callS C (n := 2) (w' := (lwMW z zo m a b h ++ nw2W z t1 t2 ν70)) hA (m_L_out D z zo l (lw_f1 t1) (lw_f1 (νx 0)) r59 τ69 qτ69) gL_areTold_L_out rfl (by decide +kernel) ⟨Nat.le_of_ble_eq_true rfl, Nat.le_of_ble_eq_true rfl⟩ ⟨Nat.le_of_ble_eq_true rfl, Nat.le_of_ble_eq_true rfl⟩ (lw_gn0 z t1 t2 νx) (by rw [← eν70]; exact lw_pn0 z t1 t2 νx τ69) rfl rfl (Nat.le_of_ble_eq_true rfl) dL_areTold_283 (st' := []) rfl rfl ?_
              refine lm_aload C dL_areTold_286 7 rfl rfl ?_
              refine lm_iload C dL_areTold_288 9 rfl rfl ?_
              obtain ⟨τ71, qτ71, hF⟩ := lm_bde hF
              obtain ⟨ν72, eν72, hF⟩ := lm_lte hF
              refine lm_callS C (n := 2) (w' := (lwMW z zo m a b h ++ nw2W z t1 t2 ν72)) hA (m_L_out D z zo l (lw_f1 t2) (lw_f1 (ν70 1)) r59 τ71 qτ71) gL_areTold_L_out rfl (by decide +kernel) ⟨Nat.le_of_ble_eq_true rfl, Nat.le_of_ble_eq_true rfl⟩ ⟨Nat.le_of_ble_eq_true rfl, Nat.le_of_ble_eq_true rfl⟩ (lw_gn1 z t1 t2 ν70) (by rw [← eν72]; exact lw_pn1 z t1 t2 ν70 τ71) rfl rfl (Nat.le_of_ble_eq_true rfl) dL_areTold_290 (st' := []) rfl rfl ?_
              refine lm_iinc C (lv' := [(0, .ref (m 0)), (1, .ref (b 0)), (2, .ref (b 1)), (4, .ref (b 3)), (6, .ref (b 5)), (7, .int (0 : Int32)), (8, .ref t1), (9, .ref t2), (10, .int (x10 + (1 : Int32))), (11, .int r59)]) (x10 + (1 : Int32)) dL_areTold_293 8 rfl rfl (by decide) rfl [1, 2, 3, 4, 5, 6, 7, 8, 0, 9] rfl rfl ?_
              refine lm_goto C (tgt := 217) dL_areTold_296 (by decide) ?_
              refine lm_lvsub (lv' := [(0, .ref (m 0)), (1, .ref (b 0)), (2, .ref (b 1)), (4, .ref (b 3)), (6, .ref (b 5)), (7, .int (0 : Int32)), (8, .ref t1), (9, .ref t2), (10, .int (x10 + (1 : Int32)))]) [0, 1, 2, 3, 4, 5, 6, 7, 8] rfl ?_
              exact ih t1 t2 ν72 (0 : Int32) (x10 + (1 : Int32)) hF
            · have hF := lm_brf hF c68
              refine lm_iconst C (v := (1 : Int32)) dL_areTold_272 (by decide) rfl ?_
              refine lm_goto C (tgt := 277) dL_areTold_273 (by decide) ?_
              refine lm_istore C (lv' := [(0, .ref (m 0)), (1, .ref (b 0)), (2, .ref (b 1)), (4, .ref (b 3)), (6, .ref (b 5)), (7, .int (1 : Int32)), (8, .ref t1), (9, .ref t2), (10, .int x10), (11, .int r59)]) dL_areTold_277 (by decide) rfl [1, 2, 3, 4, 5, 0, 6, 7, 8, 9] rfl rfl ?_
              refine lm_aload C dL_areTold_279 6 rfl rfl ?_
              refine lm_iload C dL_areTold_281 9 rfl rfl ?_
              obtain ⟨τ73, qτ73, hF⟩ := lm_bde hF
              obtain ⟨ν74, eν74, hF⟩ := lm_lte hF
              refine lm_callS C (n := 2) (w' := (lwMW z zo m a b h ++ nw2W z t1 t2 ν74)) hA (m_L_out D z zo l (lw_f1 t1) (lw_f1 (νx 0)) r59 τ73 qτ73) gL_areTold_L_out rfl (by decide +kernel) ⟨Nat.le_of_ble_eq_true rfl, Nat.le_of_ble_eq_true rfl⟩ ⟨Nat.le_of_ble_eq_true rfl, Nat.le_of_ble_eq_true rfl⟩ (lw_gn0 z t1 t2 νx) (by rw [← eν74]; exact lw_pn0 z t1 t2 νx τ73) rfl rfl (Nat.le_of_ble_eq_true rfl) dL_areTold_283 (st' := []) rfl rfl ?_
              refine lm_aload C dL_areTold_286 7 rfl rfl ?_
              refine lm_iload C dL_areTold_288 9 rfl rfl ?_
              obtain ⟨τ75, qτ75, hF⟩ := lm_bde hF
              obtain ⟨ν76, eν76, hF⟩ := lm_lte hF
              refine lm_callS C (n := 2) (w' := (lwMW z zo m a b h ++ nw2W z t1 t2 ν76)) hA (m_L_out D z zo l (lw_f1 t2) (lw_f1 (ν74 1)) r59 τ75 qτ75) gL_areTold_L_out rfl (by decide +kernel) ⟨Nat.le_of_ble_eq_true rfl, Nat.le_of_ble_eq_true rfl⟩ ⟨Nat.le_of_ble_eq_true rfl, Nat.le_of_ble_eq_true rfl⟩ (lw_gn1 z t1 t2 ν74) (by rw [← eν76]; exact lw_pn1 z t1 t2 ν74 τ75) rfl rfl (Nat.le_of_ble_eq_true rfl) dL_areTold_290 (st' := []) rfl rfl ?_
              refine lm_iinc C (lv' := [(0, .ref (m 0)), (1, .ref (b 0)), (2, .ref (b 1)), (4, .ref (b 3)), (6, .ref (b 5)), (7, .int (1 : Int32)), (8, .ref t1), (9, .ref t2), (10, .int (x10 + (1 : Int32))), (11, .int r59)]) (x10 + (1 : Int32)) dL_areTold_293 8 rfl rfl (by decide) rfl [1, 2, 3, 4, 5, 6, 7, 8, 0, 9] rfl rfl ?_
              refine lm_goto C (tgt := 217) dL_areTold_296 (by decide) ?_
              refine lm_lvsub (lv' := [(0, .ref (m 0)), (1, .ref (b 0)), (2, .ref (b 1)), (4, .ref (b 3)), (6, .ref (b 5)), (7, .int (1 : Int32)), (8, .ref t1), (9, .ref t2), (10, .int (x10 + (1 : Int32)))]) [0, 1, 2, 3, 4, 5, 6, 7, 8] rfl ?_
              exact ih t1 t2 ν76 (1 : Int32) (x10 + (1 : Int32)) hF
  have loop_181 : ∀ (n : Nat) (t1 t2 : Nat) (νx : Hp) (x7 : Int32) (x10 : Int32), F_L_areTold_L181 n h νx x7 x10 = some r → lm_St p l e ({ frames := 3, cells := 2, slots := 20, locals := 68 }) s m_ args below meth c D (va_A (lwMW z zo m a b h) s.heap.size) 15 2 20 (lm_EndA below D (some (.int r)) (lwMW z zo m a b h) args s 2 20) false (lwMW z zo m a b h ++ nw2W z t1 t2 νx) 181 [(0, .ref (m 0)), (1, .ref (b 0)), (2, .ref (b 1)), (4, .ref (b 3)), (5, .ref (b 4)), (6, .ref (b 5)), (7, .int x7), (8, .ref t1), (9, .ref t2), (10, .int x10)] [] := by
    intro n
    induction n with
    | zero => intro t1 t2 νx x7 x10 hF; cases (show (none : Option _) = some _ from hF)
    | succ n ih =>
      intro t1 t2 νx x7 x10 hF
      rw [F_L_areTold_L181] at hF
      refine lm_iload C dL_areTold_181 9 rfl rfl ?_
      refine lm_bipush C (v := (10 : Int32)) dL_areTold_183 (by decide) rfl ?_
      refine lm_icmp_ge C (tgt := 214) dL_areTold_185 (by decide) rfl (fun c4 => ?_) (fun c4 => ?_)
      · have hF := lm_brt hF c4
        refine lm_iconst C (v := (0 : Int32)) dL_areTold_214 (by decide) rfl ?_
        refine lm_istore C (lv' := [(0, .ref (m 0)), (1, .ref (b 0)), (2, .ref (b 1)), (4, .ref (b 3)), (5, .ref (b 4)), (6, .ref (b 5)), (7, .int x7), (8, .ref t1), (9, .ref t2), (10, .int (0 : Int32))]) dL_areTold_215 (by decide) rfl [1, 2, 3, 4, 5, 6, 7, 8, 9, 0] rfl rfl ?_
        refine lm_lvsub (lv' := [(0, .ref (m 0)), (1, .ref (b 0)), (2, .ref (b 1)), (4, .ref (b 3)), (6, .ref (b 5)), (7, .int x7), (8, .ref t1), (9, .ref t2), (10, .int (0 : Int32))]) [0, 1, 2, 3, 5, 6, 7, 8, 9] rfl ?_
        exact loop_217 1000 t1 t2 νx x7 (0 : Int32) hF
      · have hF := lm_brf hF c4
        refine lm_aload C dL_areTold_188 7 rfl rfl ?_
        refine lm_iload C dL_areTold_190 9 rfl rfl ?_
        refine lm_aload C dL_areTold_192 3 rfl rfl ?_
        refine lm_iload C dL_areTold_194 9 rfl rfl ?_
        obtain ⟨b77, hF⟩ := lm_gie hF
        refine lm_iald C (v := (h 9 3 x10.toNatClampNeg)) 144 rfl b77 rfl dL_areTold_196 rfl ?_
        obtain ⟨b82, hF⟩ := lm_gie hF
        obtain ⟨σ78, eσ78, hF⟩ := lm_lte hF
        refine lm_iast C (w' := (lwMW z zo m a b h ++ nw2W z t1 t2 σ78)) 147 rfl b82 dL_areTold_197 (by rw [← eσ78]; rfl) rfl ?_
        refine lm_aload C dL_areTold_198 8 rfl rfl ?_
        refine lm_iload C dL_areTold_200 9 rfl rfl ?_
        refine lm_aload C dL_areTold_202 4 rfl rfl ?_
        refine lm_iload C dL_areTold_204 9 rfl rfl ?_
        obtain ⟨b79, hF⟩ := lm_gie hF
        refine lm_iald C (v := (h 9 4 x10.toNatClampNeg)) 145 rfl b79 rfl dL_areTold_206 rfl ?_
        obtain ⟨b81, hF⟩ := lm_gie hF
        obtain ⟨σ80, eσ80, hF⟩ := lm_lte hF
        refine lm_iast C (w' := (lwMW z zo m a b h ++ nw2W z t1 t2 σ80)) 148 rfl b81 dL_areTold_207 (by rw [← eσ80]; rfl) rfl ?_
        refine lm_iinc C (lv' := [(0, .ref (m 0)), (1, .ref (b 0)), (2, .ref (b 1)), (4, .ref (b 3)), (5, .ref (b 4)), (6, .ref (b 5)), (7, .int x7), (8, .ref t1), (9, .ref t2), (10, .int (x10 + (1 : Int32)))]) (x10 + (1 : Int32)) dL_areTold_208 9 rfl rfl (by decide) rfl [1, 2, 3, 4, 5, 6, 7, 8, 9, 0] rfl rfl ?_
        refine lm_goto C (tgt := 181) dL_areTold_211 (by decide) ?_
        exact ih t1 t2 σ80 x7 (x10 + (1 : Int32)) hF
  have loop_101 : ∀ (n : Nat) (x7 : Int32) (x8 : Int32), F_L_areTold_L101 n h x7 x8 = some r → lm_St p l e ({ frames := 3, cells := 2, slots := 20, locals := 68 }) s m_ args below meth c D (va_A (lwMW z zo m a b h) s.heap.size) 15 0 0 (lm_EndA below D (some (.int r)) (lwMW z zo m a b h) args s 2 20) false (lwMW z zo m a b h) 101 [(0, .ref (m 0)), (1, .ref (b 0)), (2, .ref (b 1)), (4, .ref (b 3)), (5, .ref (b 4)), (6, .ref (b 5)), (7, .int x7), (8, .int x8)] [] := by
    intro n
    induction n with
    | zero => intro x7 x8 hF; cases (show (none : Option _) = some _ from hF)
    | succ n ih =>
      intro x7 x8 hF
      rw [F_L_areTold_L101] at hF
      refine lm_iload C dL_areTold_101 7 rfl rfl ?_
      refine lm_bipush C (v := (9 : Int32)) dL_areTold_103 (by decide) rfl ?_
      refine lm_icmp_ge C (tgt := 166) dL_areTold_105 (by decide) rfl (fun c3 => ?_) (fun c3 => ?_)
      · have hF := lm_brt hF c3
        refine lm_bipush C (v := (10 : Int32)) dL_areTold_166 (by decide) rfl ?_
        refine lm_newa C hA.1 arrcls_L_areTold (n := (10 : Int32)) (N := 10) (ce' := 1) (sl' := 10) (by decide) rfl (by decide) rfl rfl rfl dL_areTold_168 rfl (fun t1 => ?_)
        refine lm_perm (w' := (lwMW z zo m a b h ++ nw1W z t1 (fun _ _ => (0 : Int32)))) lm_app1.symm ?_
        refine lm_astore C (lv' := [(0, .ref (m 0)), (1, .ref (b 0)), (2, .ref (b 1)), (4, .ref (b 3)), (5, .ref (b 4)), (6, .ref (b 5)), (7, .int x7), (8, .ref t1)]) dL_areTold_170 (by decide) rfl [1, 2, 3, 4, 5, 6, 7, 0] rfl rfl ?_
        refine lm_bipush C (v := (10 : Int32)) dL_areTold_172 (by decide) rfl ?_
        refine lm_newa C hA.1 arrcls_L_areTold (n := (10 : Int32)) (N := 10) (ce' := 2) (sl' := 20) (by decide) rfl (by decide) rfl rfl rfl dL_areTold_174 rfl (fun t2 => ?_)
        refine lm_perm (w' := (lwMW z zo m a b h ++ nw2W z t1 t2 (fun _ _ => (0 : Int32)))) lw_nw2 ?_
        refine lm_astore C (lv' := [(0, .ref (m 0)), (1, .ref (b 0)), (2, .ref (b 1)), (4, .ref (b 3)), (5, .ref (b 4)), (6, .ref (b 5)), (7, .int x7), (8, .ref t1), (9, .ref t2)]) dL_areTold_176 (by decide) rfl [1, 2, 3, 4, 5, 6, 7, 8, 0] rfl rfl ?_
        refine lm_iconst C (v := (0 : Int32)) dL_areTold_178 (by decide) rfl ?_
        refine lm_istore C (lv' := [(0, .ref (m 0)), (1, .ref (b 0)), (2, .ref (b 1)), (4, .ref (b 3)), (5, .ref (b 4)), (6, .ref (b 5)), (7, .int x7), (8, .ref t1), (9, .ref t2), (10, .int (0 : Int32))]) dL_areTold_179 (by decide) rfl [1, 2, 3, 4, 5, 6, 7, 8, 9, 0] rfl rfl ?_
        exact loop_181 1000 t1 t2 (fun _ _ => (0 : Int32)) x7 (0 : Int32) hF
      · have hF := lm_brf hF c3
        refine lm_iload C dL_areTold_108 6 rfl rfl ?_
        refine lm_if_eq C (tgt := 157) dL_areTold_110 (by decide) rfl (fun c83 => ?_) (fun c83 => ?_)
        · have hF := lm_brt hF c83
          refine lm_iconst C (v := (0 : Int32)) dL_areTold_157 (by decide) rfl ?_
          refine lm_istore C (lv' := [(0, .ref (m 0)), (1, .ref (b 0)), (2, .ref (b 1)), (4, .ref (b 3)), (5, .ref (b 4)), (6, .ref (b 5)), (7, .int (0 : Int32)), (8, .int x8)]) dL_areTold_158 (by decide) rfl [1, 2, 3, 4, 5, 6, 0, 7] rfl rfl ?_
          refine lm_iinc C (lv' := [(0, .ref (m 0)), (1, .ref (b 0)), (2, .ref (b 1)), (4, .ref (b 3)), (5, .ref (b 4)), (6, .ref (b 5)), (7, .int (0 : Int32)), (8, .int (x8 + (1 : Int32)))]) (x8 + (1 : Int32)) dL_areTold_160 7 rfl rfl (by decide) rfl [1, 2, 3, 4, 5, 6, 7, 0] rfl rfl ?_
          refine lm_goto C (tgt := 101) dL_areTold_163 (by decide) ?_
          exact ih (0 : Int32) (x8 + (1 : Int32)) hF
        · have hF := lm_brf hF c83
          refine lm_aload_n C dL_areTold_113 rfl 0 rfl rfl ?_
          refine lm_iconst C (v := (4 : Int32)) dL_areTold_114 (by decide) rfl ?_
          refine lm_iload C dL_areTold_115 7 rfl rfl ?_
          refine lm_iadd C dL_areTold_117 rfl rfl ?_
          obtain ⟨r84, qr84, hF⟩ := lm_bde hF
          refine lm_callVR C (n := 1) (ci := 6) (m_X6_count D z zo l m a h ((4 : Int32) + x8) r84 qr84) gL_areTold_X6_count rfl (by decide +kernel) ⟨Nat.le_of_ble_eq_true rfl, Nat.le_of_ble_eq_true rfl⟩ ⟨Nat.le_of_ble_eq_true rfl, Nat.le_of_ble_eq_true rfl⟩ 0 rfl rfl (lw_sm z zo m a b h) rfl rfl (Nat.le_of_ble_eq_true rfl) dL_areTold_118 (st' := [.int r84]) rfl rfl ?_
          refine lm_aload_n C dL_areTold_121 rfl 1 rfl rfl ?_
          refine lm_bipush C (v := (7 : Int32)) dL_areTold_122 (by decide) rfl ?_
          refine lm_iload C dL_areTold_124 7 rfl rfl ?_
          refine lm_iadd C dL_areTold_126 rfl rfl ?_
          obtain ⟨b85, hF⟩ := lm_gie hF
          refine lm_iald C (v := (h 9 0 (((7 : Int32) + x8)).toNatClampNeg)) 141 rfl b85 rfl dL_areTold_127 rfl ?_
          refine lm_icmp_ne C (tgt := 157) dL_areTold_128 (by decide) rfl (fun c86 => ?_) (fun c86 => ?_)
          · have hF := lm_brt hF c86
            refine lm_iconst C (v := (0 : Int32)) dL_areTold_157 (by decide) rfl ?_
            refine lm_istore C (lv' := [(0, .ref (m 0)), (1, .ref (b 0)), (2, .ref (b 1)), (4, .ref (b 3)), (5, .ref (b 4)), (6, .ref (b 5)), (7, .int (0 : Int32)), (8, .int x8)]) dL_areTold_158 (by decide) rfl [1, 2, 3, 4, 5, 6, 0, 7] rfl rfl ?_
            refine lm_iinc C (lv' := [(0, .ref (m 0)), (1, .ref (b 0)), (2, .ref (b 1)), (4, .ref (b 3)), (5, .ref (b 4)), (6, .ref (b 5)), (7, .int (0 : Int32)), (8, .int (x8 + (1 : Int32)))]) (x8 + (1 : Int32)) dL_areTold_160 7 rfl rfl (by decide) rfl [1, 2, 3, 4, 5, 6, 7, 0] rfl rfl ?_
            refine lm_goto C (tgt := 101) dL_areTold_163 (by decide) ?_
            exact ih (0 : Int32) (x8 + (1 : Int32)) hF
          · have hF := lm_brf hF c86
            refine lm_iload C dL_areTold_131 7 rfl rfl ?_
            refine lm_iconst C (v := (4 : Int32)) dL_areTold_133 (by decide) rfl ?_
            refine lm_icmp_gt C (tgt := 153) dL_areTold_134 (by decide) rfl (fun c87 => ?_) (fun c87 => ?_)
            · have hF := lm_brt hF c87
              refine lm_iconst C (v := (1 : Int32)) dL_areTold_153 (by decide) rfl ?_
              refine lm_goto C (tgt := 158) dL_areTold_154 (by decide) ?_
              refine lm_istore C (lv' := [(0, .ref (m 0)), (1, .ref (b 0)), (2, .ref (b 1)), (4, .ref (b 3)), (5, .ref (b 4)), (6, .ref (b 5)), (7, .int (1 : Int32)), (8, .int x8)]) dL_areTold_158 (by decide) rfl [1, 2, 3, 4, 5, 6, 0, 7] rfl rfl ?_
              refine lm_iinc C (lv' := [(0, .ref (m 0)), (1, .ref (b 0)), (2, .ref (b 1)), (4, .ref (b 3)), (5, .ref (b 4)), (6, .ref (b 5)), (7, .int (1 : Int32)), (8, .int (x8 + (1 : Int32)))]) (x8 + (1 : Int32)) dL_areTold_160 7 rfl rfl (by decide) rfl [1, 2, 3, 4, 5, 6, 7, 0] rfl rfl ?_
              refine lm_goto C (tgt := 101) dL_areTold_163 (by decide) ?_
              exact ih (1 : Int32) (x8 + (1 : Int32)) hF
            · have hF := lm_brf hF c87
              refine lm_aload_n C dL_areTold_137 rfl 0 rfl rfl ?_
              refine lm_bipush C (v := (13 : Int32)) dL_areTold_138 (by decide) rfl ?_
              refine lm_iload C dL_areTold_140 7 rfl rfl ?_
              refine lm_iadd C dL_areTold_142 rfl rfl ?_
              obtain ⟨r88, qr88, hF⟩ := lm_bde hF
              refine lm_callVR C (n := 1) (ci := 6) (m_X6_count D z zo l m a h ((13 : Int32) + x8) r88 qr88) gL_areTold_X6_count rfl (by decide +kernel) ⟨Nat.le_of_ble_eq_true rfl, Nat.le_of_ble_eq_true rfl⟩ ⟨Nat.le_of_ble_eq_true rfl, Nat.le_of_ble_eq_true rfl⟩ 0 rfl rfl (lw_sm z zo m a b h) rfl rfl (Nat.le_of_ble_eq_true rfl) dL_areTold_143 (st' := [.int r88]) rfl rfl ?_
              refine lm_aload_n C dL_areTold_146 rfl 1 rfl rfl ?_
              refine lm_iload C dL_areTold_147 7 rfl rfl ?_
              obtain ⟨b89, hF⟩ := lm_gie hF
              refine lm_iald C (v := (h 9 0 x8.toNatClampNeg)) 141 rfl b89 rfl dL_areTold_149 rfl ?_
              refine lm_icmp_ne C (tgt := 157) dL_areTold_150 (by decide) rfl (fun c90 => ?_) (fun c90 => ?_)
              · have hF := lm_brt hF c90
                refine lm_iconst C (v := (0 : Int32)) dL_areTold_157 (by decide) rfl ?_
                refine lm_istore C (lv' := [(0, .ref (m 0)), (1, .ref (b 0)), (2, .ref (b 1)), (4, .ref (b 3)), (5, .ref (b 4)), (6, .ref (b 5)), (7, .int (0 : Int32)), (8, .int x8)]) dL_areTold_158 (by decide) rfl [1, 2, 3, 4, 5, 6, 0, 7] rfl rfl ?_
                refine lm_iinc C (lv' := [(0, .ref (m 0)), (1, .ref (b 0)), (2, .ref (b 1)), (4, .ref (b 3)), (5, .ref (b 4)), (6, .ref (b 5)), (7, .int (0 : Int32)), (8, .int (x8 + (1 : Int32)))]) (x8 + (1 : Int32)) dL_areTold_160 7 rfl rfl (by decide) rfl [1, 2, 3, 4, 5, 6, 7, 0] rfl rfl ?_
                refine lm_goto C (tgt := 101) dL_areTold_163 (by decide) ?_
                exact ih (0 : Int32) (x8 + (1 : Int32)) hF
              · have hF := lm_brf hF c90
                refine lm_iconst C (v := (1 : Int32)) dL_areTold_153 (by decide) rfl ?_
                refine lm_goto C (tgt := 158) dL_areTold_154 (by decide) ?_
                refine lm_istore C (lv' := [(0, .ref (m 0)), (1, .ref (b 0)), (2, .ref (b 1)), (4, .ref (b 3)), (5, .ref (b 4)), (6, .ref (b 5)), (7, .int (1 : Int32)), (8, .int x8)]) dL_areTold_158 (by decide) rfl [1, 2, 3, 4, 5, 6, 0, 7] rfl rfl ?_
                refine lm_iinc C (lv' := [(0, .ref (m 0)), (1, .ref (b 0)), (2, .ref (b 1)), (4, .ref (b 3)), (5, .ref (b 4)), (6, .ref (b 5)), (7, .int (1 : Int32)), (8, .int (x8 + (1 : Int32)))]) (x8 + (1 : Int32)) dL_areTold_160 7 rfl rfl (by decide) rfl [1, 2, 3, 4, 5, 6, 7, 0] rfl rfl ?_
                refine lm_goto C (tgt := 101) dL_areTold_163 (by decide) ?_
                exact ih (1 : Int32) (x8 + (1 : Int32)) hF
  show lm_St p l e ({ frames := 3, cells := 2, slots := 20, locals := 68 }) s m_ args below meth c D (va_A (lwMW z zo m a b h) s.heap.size) 15 0 0 (lm_EndA below D (some (.int r)) (lwMW z zo m a b h) args s 2 20) false (lwMW z zo m a b h) 0 [(0, .ref (m 0)), (1, .ref (b 0)), (2, .ref (b 1)), (3, .ref (b 2)), (4, .ref (b 3)), (5, .ref (b 4)), (6, .ref (b 5))] []
  rw [F_L_areTold] at hF
  refine lm_aload_n C dL_areTold_0 rfl 0 rfl rfl ?_
  refine lm_iconst C (v := (0 : Int32)) dL_areTold_1 (by decide) rfl ?_
  obtain ⟨r1, qr1, hF⟩ := lm_bde hF
  refine lm_callVR C (n := 1) (ci := 6) (m_X6_count D z zo l m a h (0 : Int32) r1 qr1) gL_areTold_X6_count rfl (by decide +kernel) ⟨Nat.le_of_ble_eq_true rfl, Nat.le_of_ble_eq_true rfl⟩ ⟨Nat.le_of_ble_eq_true rfl, Nat.le_of_ble_eq_true rfl⟩ 0 rfl rfl (lw_sm z zo m a b h) rfl rfl (Nat.le_of_ble_eq_true rfl) dL_areTold_2 (st' := [.int r1]) rfl rfl ?_
  refine lm_aload_n C dL_areTold_5 rfl 1 rfl rfl ?_
  refine lm_bipush C (v := (6 : Int32)) dL_areTold_6 (by decide) rfl ?_
  refine lm_iald C (v := (h 9 0 6)) 141 rfl (by unfold vp_in; decide) rfl dL_areTold_8 rfl ?_
  refine lm_icmp_ne C (tgt := 95) dL_areTold_9 (by decide) rfl (fun c2 => ?_) (fun c2 => ?_)
  · have hF := lm_brt hF c2
    refine lm_iconst C (v := (0 : Int32)) dL_areTold_95 (by decide) rfl ?_
    refine lm_istore C (lv' := [(0, .ref (m 0)), (1, .ref (b 0)), (2, .ref (b 1)), (3, .ref (b 2)), (4, .ref (b 3)), (5, .ref (b 4)), (6, .ref (b 5)), (7, .int (0 : Int32))]) dL_areTold_96 (by decide) rfl [1, 2, 3, 4, 5, 6, 7, 0] rfl rfl ?_
    refine lm_iconst C (v := (0 : Int32)) dL_areTold_98 (by decide) rfl ?_
    refine lm_istore C (lv' := [(0, .ref (m 0)), (1, .ref (b 0)), (2, .ref (b 1)), (3, .ref (b 2)), (4, .ref (b 3)), (5, .ref (b 4)), (6, .ref (b 5)), (7, .int (0 : Int32)), (8, .int (0 : Int32))]) dL_areTold_99 (by decide) rfl [1, 2, 3, 4, 5, 6, 7, 8, 0] rfl rfl ?_
    refine lm_lvsub (lv' := [(0, .ref (m 0)), (1, .ref (b 0)), (2, .ref (b 1)), (4, .ref (b 3)), (5, .ref (b 4)), (6, .ref (b 5)), (7, .int (0 : Int32)), (8, .int (0 : Int32))]) [0, 1, 2, 4, 5, 6, 7, 8] rfl ?_
    exact loop_101 1000 (0 : Int32) (0 : Int32) hF
  · have hF := lm_brf hF c2
    refine lm_aload_n C dL_areTold_12 rfl 0 rfl rfl ?_
    refine lm_iconst C (v := (1 : Int32)) dL_areTold_13 (by decide) rfl ?_
    obtain ⟨r91, qr91, hF⟩ := lm_bde hF
    refine lm_callVR C (n := 1) (ci := 6) (m_X6_count D z zo l m a h (1 : Int32) r91 qr91) gL_areTold_X6_count rfl (by decide +kernel) ⟨Nat.le_of_ble_eq_true rfl, Nat.le_of_ble_eq_true rfl⟩ ⟨Nat.le_of_ble_eq_true rfl, Nat.le_of_ble_eq_true rfl⟩ 0 rfl rfl (lw_sm z zo m a b h) rfl rfl (Nat.le_of_ble_eq_true rfl) dL_areTold_14 (st' := [.int r91]) rfl rfl ?_
    refine lm_aload_n C dL_areTold_17 rfl 1 rfl rfl ?_
    refine lm_iconst C (v := (5 : Int32)) dL_areTold_18 (by decide) rfl ?_
    refine lm_iald C (v := (h 9 0 5)) 141 rfl (by unfold vp_in; decide) rfl dL_areTold_19 rfl ?_
    refine lm_icmp_ne C (tgt := 95) dL_areTold_20 (by decide) rfl (fun c92 => ?_) (fun c92 => ?_)
    · have hF := lm_brt hF c92
      refine lm_iconst C (v := (0 : Int32)) dL_areTold_95 (by decide) rfl ?_
      refine lm_istore C (lv' := [(0, .ref (m 0)), (1, .ref (b 0)), (2, .ref (b 1)), (3, .ref (b 2)), (4, .ref (b 3)), (5, .ref (b 4)), (6, .ref (b 5)), (7, .int (0 : Int32))]) dL_areTold_96 (by decide) rfl [1, 2, 3, 4, 5, 6, 7, 0] rfl rfl ?_
      refine lm_iconst C (v := (0 : Int32)) dL_areTold_98 (by decide) rfl ?_
      refine lm_istore C (lv' := [(0, .ref (m 0)), (1, .ref (b 0)), (2, .ref (b 1)), (3, .ref (b 2)), (4, .ref (b 3)), (5, .ref (b 4)), (6, .ref (b 5)), (7, .int (0 : Int32)), (8, .int (0 : Int32))]) dL_areTold_99 (by decide) rfl [1, 2, 3, 4, 5, 6, 7, 8, 0] rfl rfl ?_
      refine lm_lvsub (lv' := [(0, .ref (m 0)), (1, .ref (b 0)), (2, .ref (b 1)), (4, .ref (b 3)), (5, .ref (b 4)), (6, .ref (b 5)), (7, .int (0 : Int32)), (8, .int (0 : Int32))]) [0, 1, 2, 4, 5, 6, 7, 8] rfl ?_
      exact loop_101 1000 (0 : Int32) (0 : Int32) hF
    · have hF := lm_brf hF c92
      refine lm_aload_n C dL_areTold_23 rfl 0 rfl rfl ?_
      refine lm_iconst C (v := (2 : Int32)) dL_areTold_24 (by decide) rfl ?_
      obtain ⟨r93, qr93, hF⟩ := lm_bde hF
      refine lm_callVR C (n := 1) (ci := 6) (m_X6_count D z zo l m a h (2 : Int32) r93 qr93) gL_areTold_X6_count rfl (by decide +kernel) ⟨Nat.le_of_ble_eq_true rfl, Nat.le_of_ble_eq_true rfl⟩ ⟨Nat.le_of_ble_eq_true rfl, Nat.le_of_ble_eq_true rfl⟩ 0 rfl rfl (lw_sm z zo m a b h) rfl rfl (Nat.le_of_ble_eq_true rfl) dL_areTold_25 (st' := [.int r93]) rfl rfl ?_
      refine lm_aload C dL_areTold_28 4 rfl rfl ?_
      obtain ⟨r94, qr94, hF⟩ := lm_bde hF
      refine lm_callSR C (n := 1) (m_L_many D z zo l (lw_f1 (b 3)) (lw_f1 (h 9 3)) r94 qr94) gL_areTold_L_many rfl (by decide +kernel) ⟨Nat.le_of_ble_eq_true rfl, Nat.le_of_ble_eq_true rfl⟩ ⟨Nat.le_of_ble_eq_true rfl, Nat.le_of_ble_eq_true rfl⟩ (fun q hq => lw_s6 z zo m a b h q (lw_hsub [3] rfl q hq)) rfl rfl (Nat.le_of_ble_eq_true rfl) dL_areTold_30 (st' := [.int r94, .int r93]) rfl rfl ?_
      refine lm_icmp_ne C (tgt := 95) dL_areTold_33 (by decide) rfl (fun c95 => ?_) (fun c95 => ?_)
      · have hF := lm_brt hF c95
        refine lm_iconst C (v := (0 : Int32)) dL_areTold_95 (by decide) rfl ?_
        refine lm_istore C (lv' := [(0, .ref (m 0)), (1, .ref (b 0)), (2, .ref (b 1)), (3, .ref (b 2)), (4, .ref (b 3)), (5, .ref (b 4)), (6, .ref (b 5)), (7, .int (0 : Int32))]) dL_areTold_96 (by decide) rfl [1, 2, 3, 4, 5, 6, 7, 0] rfl rfl ?_
        refine lm_iconst C (v := (0 : Int32)) dL_areTold_98 (by decide) rfl ?_
        refine lm_istore C (lv' := [(0, .ref (m 0)), (1, .ref (b 0)), (2, .ref (b 1)), (3, .ref (b 2)), (4, .ref (b 3)), (5, .ref (b 4)), (6, .ref (b 5)), (7, .int (0 : Int32)), (8, .int (0 : Int32))]) dL_areTold_99 (by decide) rfl [1, 2, 3, 4, 5, 6, 7, 8, 0] rfl rfl ?_
        refine lm_lvsub (lv' := [(0, .ref (m 0)), (1, .ref (b 0)), (2, .ref (b 1)), (4, .ref (b 3)), (5, .ref (b 4)), (6, .ref (b 5)), (7, .int (0 : Int32)), (8, .int (0 : Int32))]) [0, 1, 2, 4, 5, 6, 7, 8] rfl ?_
        exact loop_101 1000 (0 : Int32) (0 : Int32) hF
      · have hF := lm_brf hF c95
        refine lm_aload_n C dL_areTold_36 rfl 0 rfl rfl ?_
        refine lm_iconst C (v := (3 : Int32)) dL_areTold_37 (by decide) rfl ?_
        obtain ⟨r96, qr96, hF⟩ := lm_bde hF
        refine lm_callVR C (n := 1) (ci := 6) (m_X6_count D z zo l m a h (3 : Int32) r96 qr96) gL_areTold_X6_count rfl (by decide +kernel) ⟨Nat.le_of_ble_eq_true rfl, Nat.le_of_ble_eq_true rfl⟩ ⟨Nat.le_of_ble_eq_true rfl, Nat.le_of_ble_eq_true rfl⟩ 0 rfl rfl (lw_sm z zo m a b h) rfl rfl (Nat.le_of_ble_eq_true rfl) dL_areTold_38 (st' := [.int r96]) rfl rfl ?_
        refine lm_aload_n C dL_areTold_41 rfl 1 rfl rfl ?_
        refine lm_aload_n C dL_areTold_42 rfl 2 rfl rfl ?_
        refine lm_aload C dL_areTold_43 4 rfl rfl ?_
        obtain ⟨r97, qr97, hF⟩ := lm_bde hF
        refine lm_callSR C (n := 3) (m_L_weights D z zo l b (h 9) r97 qr97) gL_areTold_L_weights rfl (by decide +kernel) ⟨Nat.le_of_ble_eq_true rfl, Nat.le_of_ble_eq_true rfl⟩ ⟨Nat.le_of_ble_eq_true rfl, Nat.le_of_ble_eq_true rfl⟩ (lw_s6 z zo m a b h) rfl rfl (Nat.le_of_ble_eq_true rfl) dL_areTold_45 (st' := [.int r97, .int r96]) rfl rfl ?_
        refine lm_icmp_ne C (tgt := 95) dL_areTold_48 (by decide) rfl (fun c98 => ?_) (fun c98 => ?_)
        · have hF := lm_brt hF c98
          refine lm_iconst C (v := (0 : Int32)) dL_areTold_95 (by decide) rfl ?_
          refine lm_istore C (lv' := [(0, .ref (m 0)), (1, .ref (b 0)), (2, .ref (b 1)), (3, .ref (b 2)), (4, .ref (b 3)), (5, .ref (b 4)), (6, .ref (b 5)), (7, .int (0 : Int32))]) dL_areTold_96 (by decide) rfl [1, 2, 3, 4, 5, 6, 7, 0] rfl rfl ?_
          refine lm_iconst C (v := (0 : Int32)) dL_areTold_98 (by decide) rfl ?_
          refine lm_istore C (lv' := [(0, .ref (m 0)), (1, .ref (b 0)), (2, .ref (b 1)), (3, .ref (b 2)), (4, .ref (b 3)), (5, .ref (b 4)), (6, .ref (b 5)), (7, .int (0 : Int32)), (8, .int (0 : Int32))]) dL_areTold_99 (by decide) rfl [1, 2, 3, 4, 5, 6, 7, 8, 0] rfl rfl ?_
          refine lm_lvsub (lv' := [(0, .ref (m 0)), (1, .ref (b 0)), (2, .ref (b 1)), (4, .ref (b 3)), (5, .ref (b 4)), (6, .ref (b 5)), (7, .int (0 : Int32)), (8, .int (0 : Int32))]) [0, 1, 2, 4, 5, 6, 7, 8] rfl ?_
          exact loop_101 1000 (0 : Int32) (0 : Int32) hF
        · have hF := lm_brf hF c98
          refine lm_aload_n C dL_areTold_51 rfl 0 rfl rfl ?_
          refine lm_callVR C (n := 0) (ci := 6) (m_X6_rate D z zo l m a h) gL_areTold_X6_rate rfl (by decide +kernel) ⟨Nat.le_of_ble_eq_true rfl, Nat.le_of_ble_eq_true rfl⟩ ⟨Nat.le_of_ble_eq_true rfl, Nat.le_of_ble_eq_true rfl⟩ 0 rfl rfl (lw_sm z zo m a b h) (As := []) rfl rfl (Nat.le_of_ble_eq_true rfl) dL_areTold_52 (st' := [.double (rD (h 0 16 0) (h 0 16 1))]) rfl rfl ?_
          refine lm_aload_n C dL_areTold_55 rfl 1 rfl rfl ?_
          refine lm_bipush C (v := (9 : Int32)) dL_areTold_56 (by decide) rfl ?_
          refine lm_iald C (v := (h 9 0 9)) 141 rfl (by unfold vp_in; decide) rfl dL_areTold_58 rfl ?_
          refine lm_aload_n C dL_areTold_59 rfl 1 rfl rfl ?_
          refine lm_bipush C (v := (10 : Int32)) dL_areTold_60 (by decide) rfl ?_
          refine lm_iald C (v := (h 9 0 10)) 141 rfl (by unfold vp_in; decide) rfl dL_areTold_62 rfl ?_
          refine lm_iadd C dL_areTold_63 rfl rfl ?_
          refine lm_if_ne C (tgt := 71) dL_areTold_64 (by decide) rfl (fun c99 => ?_) (fun c99 => ?_)
          · have hF := lm_brt hF c99
            refine lm_aload_n C dL_areTold_71 rfl 1 rfl rfl ?_
            refine lm_bipush C (v := (9 : Int32)) dL_areTold_72 (by decide) rfl ?_
            refine lm_iald C (v := (h 9 0 9)) 141 rfl (by unfold vp_in; decide) rfl dL_areTold_74 rfl ?_
            refine lm_i2d C dL_areTold_75 rfl ?_
            refine lm_aload_n C dL_areTold_76 rfl 1 rfl rfl ?_
            refine lm_bipush C (v := (9 : Int32)) dL_areTold_77 (by decide) rfl ?_
            refine lm_iald C (v := (h 9 0 9)) 141 rfl (by unfold vp_in; decide) rfl dL_areTold_79 rfl ?_
            refine lm_aload_n C dL_areTold_80 rfl 1 rfl rfl ?_
            refine lm_bipush C (v := (10 : Int32)) dL_areTold_81 (by decide) rfl ?_
            refine lm_iald C (v := (h 9 0 10)) 141 rfl (by unfold vp_in; decide) rfl dL_areTold_83 rfl ?_
            refine lm_iadd C dL_areTold_84 rfl rfl ?_
            refine lm_i2d C dL_areTold_85 rfl ?_
            refine lm_ddiv C (nn_div _ _ c99) dL_areTold_86 rfl ?_
            refine lm_dcmp C (v := (Op.cmpValue (FP.dcmp (rD (h 0 16 0) (h 0 16 1)) (FP.ddiv (FP.i2d (h 9 0 9)) (FP.i2d ((h 9 0 9) + (h 9 0 10))))) .l)) dL_areTold_87 rfl rfl ?_
            refine lm_if_ne C (tgt := 95) dL_areTold_88 (by decide) rfl (fun c100 => ?_) (fun c100 => ?_)
            · have hF := lm_brt hF c100
              refine lm_iconst C (v := (0 : Int32)) dL_areTold_95 (by decide) rfl ?_
              refine lm_istore C (lv' := [(0, .ref (m 0)), (1, .ref (b 0)), (2, .ref (b 1)), (3, .ref (b 2)), (4, .ref (b 3)), (5, .ref (b 4)), (6, .ref (b 5)), (7, .int (0 : Int32))]) dL_areTold_96 (by decide) rfl [1, 2, 3, 4, 5, 6, 7, 0] rfl rfl ?_
              refine lm_iconst C (v := (0 : Int32)) dL_areTold_98 (by decide) rfl ?_
              refine lm_istore C (lv' := [(0, .ref (m 0)), (1, .ref (b 0)), (2, .ref (b 1)), (3, .ref (b 2)), (4, .ref (b 3)), (5, .ref (b 4)), (6, .ref (b 5)), (7, .int (0 : Int32)), (8, .int (0 : Int32))]) dL_areTold_99 (by decide) rfl [1, 2, 3, 4, 5, 6, 7, 8, 0] rfl rfl ?_
              refine lm_lvsub (lv' := [(0, .ref (m 0)), (1, .ref (b 0)), (2, .ref (b 1)), (4, .ref (b 3)), (5, .ref (b 4)), (6, .ref (b 5)), (7, .int (0 : Int32)), (8, .int (0 : Int32))]) [0, 1, 2, 4, 5, 6, 7, 8] rfl ?_
              exact loop_101 1000 (0 : Int32) (0 : Int32) hF
            · have hF := lm_brf hF c100
              refine lm_iconst C (v := (1 : Int32)) dL_areTold_91 (by decide) rfl ?_
              refine lm_goto C (tgt := 96) dL_areTold_92 (by decide) ?_
              refine lm_istore C (lv' := [(0, .ref (m 0)), (1, .ref (b 0)), (2, .ref (b 1)), (3, .ref (b 2)), (4, .ref (b 3)), (5, .ref (b 4)), (6, .ref (b 5)), (7, .int (1 : Int32))]) dL_areTold_96 (by decide) rfl [1, 2, 3, 4, 5, 6, 7, 0] rfl rfl ?_
              refine lm_iconst C (v := (0 : Int32)) dL_areTold_98 (by decide) rfl ?_
              refine lm_istore C (lv' := [(0, .ref (m 0)), (1, .ref (b 0)), (2, .ref (b 1)), (3, .ref (b 2)), (4, .ref (b 3)), (5, .ref (b 4)), (6, .ref (b 5)), (7, .int (1 : Int32)), (8, .int (0 : Int32))]) dL_areTold_99 (by decide) rfl [1, 2, 3, 4, 5, 6, 7, 8, 0] rfl rfl ?_
              refine lm_lvsub (lv' := [(0, .ref (m 0)), (1, .ref (b 0)), (2, .ref (b 1)), (4, .ref (b 3)), (5, .ref (b 4)), (6, .ref (b 5)), (7, .int (1 : Int32)), (8, .int (0 : Int32))]) [0, 1, 2, 4, 5, 6, 7, 8] rfl ?_
              exact loop_101 1000 (1 : Int32) (0 : Int32) hF
          · have hF := lm_brf hF c99
            refine lm_dconst0 C dL_areTold_67 rfl ?_
            refine lm_goto C (tgt := 87) dL_areTold_68 (by decide) ?_
            refine lm_dcmp C (v := (Op.cmpValue (FP.dcmp (rD (h 0 16 0) (h 0 16 1)) FP.dconst0) .l)) dL_areTold_87 rfl rfl ?_
            refine lm_if_ne C (tgt := 95) dL_areTold_88 (by decide) rfl (fun c101 => ?_) (fun c101 => ?_)
            · have hF := lm_brt hF c101
              refine lm_iconst C (v := (0 : Int32)) dL_areTold_95 (by decide) rfl ?_
              refine lm_istore C (lv' := [(0, .ref (m 0)), (1, .ref (b 0)), (2, .ref (b 1)), (3, .ref (b 2)), (4, .ref (b 3)), (5, .ref (b 4)), (6, .ref (b 5)), (7, .int (0 : Int32))]) dL_areTold_96 (by decide) rfl [1, 2, 3, 4, 5, 6, 7, 0] rfl rfl ?_
              refine lm_iconst C (v := (0 : Int32)) dL_areTold_98 (by decide) rfl ?_
              refine lm_istore C (lv' := [(0, .ref (m 0)), (1, .ref (b 0)), (2, .ref (b 1)), (3, .ref (b 2)), (4, .ref (b 3)), (5, .ref (b 4)), (6, .ref (b 5)), (7, .int (0 : Int32)), (8, .int (0 : Int32))]) dL_areTold_99 (by decide) rfl [1, 2, 3, 4, 5, 6, 7, 8, 0] rfl rfl ?_
              refine lm_lvsub (lv' := [(0, .ref (m 0)), (1, .ref (b 0)), (2, .ref (b 1)), (4, .ref (b 3)), (5, .ref (b 4)), (6, .ref (b 5)), (7, .int (0 : Int32)), (8, .int (0 : Int32))]) [0, 1, 2, 4, 5, 6, 7, 8] rfl ?_
              exact loop_101 1000 (0 : Int32) (0 : Int32) hF
            · have hF := lm_brf hF c101
              refine lm_iconst C (v := (1 : Int32)) dL_areTold_91 (by decide) rfl ?_
              refine lm_goto C (tgt := 96) dL_areTold_92 (by decide) ?_
              refine lm_istore C (lv' := [(0, .ref (m 0)), (1, .ref (b 0)), (2, .ref (b 1)), (3, .ref (b 2)), (4, .ref (b 3)), (5, .ref (b 4)), (6, .ref (b 5)), (7, .int (1 : Int32))]) dL_areTold_96 (by decide) rfl [1, 2, 3, 4, 5, 6, 7, 0] rfl rfl ?_
              refine lm_iconst C (v := (0 : Int32)) dL_areTold_98 (by decide) rfl ?_
              refine lm_istore C (lv' := [(0, .ref (m 0)), (1, .ref (b 0)), (2, .ref (b 1)), (3, .ref (b 2)), (4, .ref (b 3)), (5, .ref (b 4)), (6, .ref (b 5)), (7, .int (1 : Int32)), (8, .int (0 : Int32))]) dL_areTold_99 (by decide) rfl [1, 2, 3, 4, 5, 6, 7, 8, 0] rfl rfl ?_
              refine lm_lvsub (lv' := [(0, .ref (m 0)), (1, .ref (b 0)), (2, .ref (b 1)), (4, .ref (b 3)), (5, .ref (b 4)), (6, .ref (b 5)), (7, .int (1 : Int32)), (8, .int (0 : Int32))]) [0, 1, 2, 4, 5, 6, 7, 8] rfl ?_
              exact loop_101 1000 (1 : Int32) (0 : Int32) hF
