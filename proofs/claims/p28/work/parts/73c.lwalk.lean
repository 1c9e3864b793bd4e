set_option maxRecDepth 100000 in
set_option maxHeartbeats 4000000 in
theorem m_L_areRows (D : va_G) (z zo : ClassId) (l : Launch) (m : Nat → Nat) (a : Nat → Nat → Nat) (b : Nat → Nat) (h : Nat → Hp)  (r : Int32)  (hF : F_L_areRows h  = some r) : lm_CR D z zo l yL_areRows wsL_areRows 3 68 [.ref (m 0), .ref (b 0), .ref (b 1), .ref (b 2), .ref (b 3)] (lwMW z zo m a b h) (some (.int r)) := by
  refine lm_CR.of (by decide) rfl (Nat.le_of_ble_eq_true rfl) (own := RL) rfl ?_
  intro p e s m_ args below meth c C hr hk
  have loop_228 : ∀ (n : Nat) (hx : Nat → Hp) (x5 : Int32) (x6 : Int32) (x7 : Int32), F_L_areRows_L228 n hx x5 x6 x7 = some r → lm_St p l e ({ frames := 3, cells := 0, slots := 0, locals := 68 }) s m_ args below meth c D (fun _ => False) 9 0 0 (lm_EndR below (some (.int r)) args s) true (lwMW z zo m a b hx) 228 [(0, .ref (m 0)), (1, .ref (b 0)), (2, .ref (b 1)), (3, .ref (b 2)), (5, .int x5), (6, .int x6), (7, .int x7)] [] := by
    intro n
    induction n with
    | zero => intro hx x5 x6 x7 hF; cases (show (none : Option _) = some _ from hF)
    | succ n ih =>
      intro hx x5 x6 x7 hF
      rw [F_L_areRows_L228] at hF
      refine lm_iload C dL_areRows_228 6 rfl rfl ?_
      refine lm_aload_n C dL_areRows_230 rfl 1 rfl rfl ?_
      refine lm_bipush C (v := (6 : Int32)) dL_areRows_231 (by decide) rfl ?_
      refine lm_iald C (v := (hx 9 0 6)) 141 rfl (by unfold vp_in; decide) rfl dL_areRows_233 rfl ?_
      refine lm_icmp_ge C (tgt := 342) dL_areRows_234 (by decide) rfl (fun c4 => ?_) (fun c4 => ?_)
      · have hF := lm_brt hF c4
        refine lm_iload C dL_areRows_342 4 rfl rfl ?_
        refine lm_if_eq C (tgt := 371) dL_areRows_344 (by decide) rfl (fun c5 => ?_) (fun c5 => ?_)
        · have hF := lm_brt hF c5
          refine lm_iconst C (v := (0 : Int32)) dL_areRows_371 (by decide) rfl ?_
          cases hF
          exact lm_zretR C hr hk rfl rfl dL_areRows_372
        · have hF := lm_brf hF c5
          refine lm_aload_n C dL_areRows_347 rfl 0 rfl rfl ?_
          refine lm_iconst C (v := (0 : Int32)) dL_areRows_348 (by decide) rfl ?_
          obtain ⟨r6, qr6, hF⟩ := lm_bde hF
          refine lm_callVR C (n := 1) (ci := 6) (m_X6_total D z zo l m a hx (0 : Int32) r6 qr6) gL_areRows_X6_total rfl (by decide +kernel) ⟨Nat.le_of_ble_eq_true rfl, Nat.le_of_ble_eq_true rfl⟩ ⟨Nat.le_of_ble_eq_true rfl, Nat.le_of_ble_eq_true rfl⟩ 0 rfl rfl (lw_sm z zo m a b hx) rfl rfl (Nat.le_of_ble_eq_true rfl) dL_areRows_349 (st' := [.int r6]) rfl rfl ?_
          refine lm_iload C dL_areRows_352 5 rfl rfl ?_
          refine lm_icmp_ne C (tgt := 371) dL_areRows_354 (by decide) rfl (fun c7 => ?_) (fun c7 => ?_)
          · have hF := lm_brt hF c7
            refine lm_iconst C (v := (0 : Int32)) dL_areRows_371 (by decide) rfl ?_
            cases hF
            exact lm_zretR C hr hk rfl rfl dL_areRows_372
          · have hF := lm_brf hF c7
            refine lm_aload_n C dL_areRows_357 rfl 0 rfl rfl ?_
            refine lm_iconst C (v := (1 : Int32)) dL_areRows_358 (by decide) rfl ?_
            obtain ⟨r8, qr8, hF⟩ := lm_bde hF
            refine lm_callVR C (n := 1) (ci := 6) (m_X6_total D z zo l m a hx (1 : Int32) r8 qr8) gL_areRows_X6_total rfl (by decide +kernel) ⟨Nat.le_of_ble_eq_true rfl, Nat.le_of_ble_eq_true rfl⟩ ⟨Nat.le_of_ble_eq_true rfl, Nat.le_of_ble_eq_true rfl⟩ 0 rfl rfl (lw_sm z zo m a b hx) rfl rfl (Nat.le_of_ble_eq_true rfl) dL_areRows_359 (st' := [.int r8]) rfl rfl ?_
            refine lm_iload C dL_areRows_362 5 rfl rfl ?_
            refine lm_icmp_ne C (tgt := 371) dL_areRows_364 (by decide) rfl (fun c9 => ?_) (fun c9 => ?_)
            · have hF := lm_brt hF c9
              refine lm_iconst C (v := (0 : Int32)) dL_areRows_371 (by decide) rfl ?_
              cases hF
              exact lm_zretR C hr hk rfl rfl dL_areRows_372
            · have hF := lm_brf hF c9
              refine lm_iconst C (v := (1 : Int32)) dL_areRows_367 (by decide) rfl ?_
              refine lm_goto C (tgt := 372) dL_areRows_368 (by decide) ?_
              cases hF
              exact lm_zretR C hr hk rfl rfl dL_areRows_372
      · have hF := lm_brf hF c4
        refine lm_iload C dL_areRows_237 5 rfl rfl ?_
        refine lm_aload_n C dL_areRows_239 rfl 3 rfl rfl ?_
        refine lm_iconst C (v := (2 : Int32)) dL_areRows_240 (by decide) rfl ?_
        refine lm_iload C dL_areRows_241 6 rfl rfl ?_
        refine lm_imul C dL_areRows_243 rfl rfl ?_
        refine lm_iconst C (v := (1 : Int32)) dL_areRows_244 (by decide) rfl ?_
        refine lm_iadd C dL_areRows_245 rfl rfl ?_
        obtain ⟨b10, hF⟩ := lm_gie hF
        refine lm_iald C (v := (hx 9 2 ((((2 : Int32) * x7) + (1 : Int32))).toNatClampNeg)) 143 rfl b10 rfl dL_areRows_246 rfl ?_
        refine lm_aload_n C dL_areRows_247 rfl 1 rfl rfl ?_
        refine lm_aload_n C dL_areRows_248 rfl 2 rfl rfl ?_
        refine lm_aload_n C dL_areRows_249 rfl 3 rfl rfl ?_
        refine lm_iconst C (v := (2 : Int32)) dL_areRows_250 (by decide) rfl ?_
        refine lm_iload C dL_areRows_251 6 rfl rfl ?_
        refine lm_imul C dL_areRows_253 rfl rfl ?_
        obtain ⟨b11, hF⟩ := lm_gie hF
        refine lm_iald C (v := (hx 9 2 (((2 : Int32) * x7)).toNatClampNeg)) 143 rfl b11 rfl dL_areRows_254 rfl ?_
        refine lm_iconst C (v := (1 : Int32)) dL_areRows_255 (by decide) rfl ?_
        obtain ⟨r12, qr12, hF⟩ := lm_bde hF
        refine lm_callSR C (n := 4) (m_L_weight D z zo l b (hx 9) (hx 9 2 (((2 : Int32) * x7)).toNatClampNeg) (1 : Int32) r12 qr12) gL_areRows_L_weight rfl (by decide +kernel) ⟨Nat.le_of_ble_eq_true rfl, Nat.le_of_ble_eq_true rfl⟩ ⟨Nat.le_of_ble_eq_true rfl, Nat.le_of_ble_eq_true rfl⟩ (lw_s6 z zo m a b hx) rfl rfl (Nat.le_of_ble_eq_true rfl) dL_areRows_256 (st' := [.int r12, .int (hx 9 2 ((((2 : Int32) * x7) + (1 : Int32))).toNatClampNeg), .int x6]) rfl rfl ?_
        refine lm_imul C dL_areRows_259 rfl rfl ?_
        refine lm_iadd C dL_areRows_260 rfl rfl ?_
        obtain ⟨t13, et13, hF⟩ := lm_lte hF
        rw [et13]
        refine lm_istore C (lv' := [(0, .ref (m 0)), (1, .ref (b 0)), (2, .ref (b 1)), (3, .ref (b 2)), (5, .int x5), (6, .int t13), (7, .int x7)]) dL_areRows_261 (by decide) rfl [1, 2, 3, 4, 5, 0, 6] rfl rfl ?_
        refine lm_iload C dL_areRows_263 4 rfl rfl ?_
        refine lm_if_eq C (tgt := 333) dL_areRows_265 (by decide) rfl (fun c14 => ?_) (fun c14 => ?_)
        · have hF := lm_brt hF c14
          refine lm_iconst C (v := (0 : Int32)) dL_areRows_333 (by decide) rfl ?_
          refine lm_istore C (lv' := [(0, .ref (m 0)), (1, .ref (b 0)), (2, .ref (b 1)), (3, .ref (b 2)), (5, .int (0 : Int32)), (6, .int t13), (7, .int x7)]) dL_areRows_334 (by decide) rfl [1, 2, 3, 4, 0, 5, 6] rfl rfl ?_
          refine lm_iinc C (lv' := [(0, .ref (m 0)), (1, .ref (b 0)), (2, .ref (b 1)), (3, .ref (b 2)), (5, .int (0 : Int32)), (6, .int t13), (7, .int (x7 + (1 : Int32)))]) (x7 + (1 : Int32)) dL_areRows_336 6 rfl rfl (by decide) rfl [1, 2, 3, 4, 5, 6, 0] rfl rfl ?_
          refine lm_goto C (tgt := 228) dL_areRows_339 (by decide) ?_
          exact ih hx (0 : Int32) t13 (x7 + (1 : Int32)) hF
        · have hF := lm_brf hF c14
          refine lm_aload_n C dL_areRows_268 rfl 0 rfl rfl ?_
          refine lm_iconst C (v := (0 : Int32)) dL_areRows_269 (by decide) rfl ?_
          refine lm_iload C dL_areRows_270 6 rfl rfl ?_
          refine lm_iconst C (v := (0 : Int32)) dL_areRows_272 (by decide) rfl ?_
          obtain ⟨r15, qr15, hF⟩ := lm_bde hF
          refine lm_callVR C (n := 3) (ci := 6) (m_X6_row D z zo l m a hx (0 : Int32) x7 (0 : Int32) r15 qr15) gL_areRows_X6_row rfl (by decide +kernel) ⟨Nat.le_of_ble_eq_true rfl, Nat.le_of_ble_eq_true rfl⟩ ⟨Nat.le_of_ble_eq_true rfl, Nat.le_of_ble_eq_true rfl⟩ 0 rfl rfl (lw_sm z zo m a b hx) rfl rfl (Nat.le_of_ble_eq_true rfl) dL_areRows_273 (st' := [.int r15]) rfl rfl ?_
          refine lm_aload_n C dL_areRows_276 rfl 3 rfl rfl ?_
          refine lm_iconst C (v := (2 : Int32)) dL_areRows_277 (by decide) rfl ?_
          refine lm_iload C dL_areRows_278 6 rfl rfl ?_
          refine lm_imul C dL_areRows_280 rfl rfl ?_
          obtain ⟨b16, hF⟩ := lm_gie hF
          refine lm_iald C (v := (hx 9 2 (((2 : Int32) * x7)).toNatClampNeg)) 143 rfl b16 rfl dL_areRows_281 rfl ?_
          refine lm_icmp_ne C (tgt := 333) dL_areRows_282 (by decide) rfl (fun c17 => ?_) (fun c17 => ?_)
          · have hF := lm_brt hF c17
            refine lm_iconst C (v := (0 : Int32)) dL_areRows_333 (by decide) rfl ?_
            refine lm_istore C (lv' := [(0, .ref (m 0)), (1, .ref (b 0)), (2, .ref (b 1)), (3, .ref (b 2)), (5, .int (0 : Int32)), (6, .int t13), (7, .int x7)]) dL_areRows_334 (by decide) rfl [1, 2, 3, 4, 0, 5, 6] rfl rfl ?_
            refine lm_iinc C (lv' := [(0, .ref (m 0)), (1, .ref (b 0)), (2, .ref (b 1)), (3, .ref (b 2)), (5, .int (0 : Int32)), (6, .int t13), (7, .int (x7 + (1 : Int32)))]) (x7 + (1 : Int32)) dL_areRows_336 6 rfl rfl (by decide) rfl [1, 2, 3, 4, 5, 6, 0] rfl rfl ?_
            refine lm_goto C (tgt := 228) dL_areRows_339 (by decide) ?_
            exact ih hx (0 : Int32) t13 (x7 + (1 : Int32)) hF
          · have hF := lm_brf hF c17
            refine lm_aload_n C dL_areRows_285 rfl 0 rfl rfl ?_
            refine lm_iconst C (v := (0 : Int32)) dL_areRows_286 (by decide) rfl ?_
            refine lm_iload C dL_areRows_287 6 rfl rfl ?_
            refine lm_iconst C (v := (1 : Int32)) dL_areRows_289 (by decide) rfl ?_
            obtain ⟨r18, qr18, hF⟩ := lm_bde hF
            refine lm_callVR C (n := 3) (ci := 6) (m_X6_row D z zo l m a hx (0 : Int32) x7 (1 : Int32) r18 qr18) gL_areRows_X6_row rfl (by decide +kernel) ⟨Nat.le_of_ble_eq_true rfl, Nat.le_of_ble_eq_true rfl⟩ ⟨Nat.le_of_ble_eq_true rfl, Nat.le_of_ble_eq_true rfl⟩ 0 rfl rfl (lw_sm z zo m a b hx) rfl rfl (Nat.le_of_ble_eq_true rfl) dL_areRows_290 (st' := [.int r18]) rfl rfl ?_
            refine lm_aload_n C dL_areRows_293 rfl 3 rfl rfl ?_
            refine lm_iconst C (v := (2 : Int32)) dL_areRows_294 (by decide) rfl ?_
            refine lm_iload C dL_areRows_295 6 rfl rfl ?_
            refine lm_imul C dL_areRows_297 rfl rfl ?_
            refine lm_iconst C (v := (1 : Int32)) dL_areRows_298 (by decide) rfl ?_
            refine lm_iadd C dL_areRows_299 rfl rfl ?_
            obtain ⟨b19, hF⟩ := lm_gie hF
            refine lm_iald C (v := (hx 9 2 ((((2 : Int32) * x7) + (1 : Int32))).toNatClampNeg)) 143 rfl b19 rfl dL_areRows_300 rfl ?_
            refine lm_icmp_ne C (tgt := 333) dL_areRows_301 (by decide) rfl (fun c20 => ?_) (fun c20 => ?_)
            · have hF := lm_brt hF c20
              refine lm_iconst C (v := (0 : Int32)) dL_areRows_333 (by decide) rfl ?_
              refine lm_istore C (lv' := [(0, .ref (m 0)), (1, .ref (b 0)), (2, .ref (b 1)), (3, .ref (b 2)), (5, .int (0 : Int32)), (6, .int t13), (7, .int x7)]) dL_areRows_334 (by decide) rfl [1, 2, 3, 4, 0, 5, 6] rfl rfl ?_
              refine lm_iinc C (lv' := [(0, .ref (m 0)), (1, .ref (b 0)), (2, .ref (b 1)), (3, .ref (b 2)), (5, .int (0 : Int32)), (6, .int t13), (7, .int (x7 + (1 : Int32)))]) (x7 + (1 : Int32)) dL_areRows_336 6 rfl rfl (by decide) rfl [1, 2, 3, 4, 5, 6, 0] rfl rfl ?_
              refine lm_goto C (tgt := 228) dL_areRows_339 (by decide) ?_
              exact ih hx (0 : Int32) t13 (x7 + (1 : Int32)) hF
            · have hF := lm_brf hF c20
              refine lm_aload_n C dL_areRows_304 rfl 0 rfl rfl ?_
              refine lm_iconst C (v := (0 : Int32)) dL_areRows_305 (by decide) rfl ?_
              refine lm_iload C dL_areRows_306 6 rfl rfl ?_
              refine lm_iconst C (v := (2 : Int32)) dL_areRows_308 (by decide) rfl ?_
              obtain ⟨r21, qr21, hF⟩ := lm_bde hF
              refine lm_callVR C (n := 3) (ci := 6) (m_X6_row D z zo l m a hx (0 : Int32) x7 (2 : Int32) r21 qr21) gL_areRows_X6_row rfl (by decide +kernel) ⟨Nat.le_of_ble_eq_true rfl, Nat.le_of_ble_eq_true rfl⟩ ⟨Nat.le_of_ble_eq_true rfl, Nat.le_of_ble_eq_true rfl⟩ 0 rfl rfl (lw_sm z zo m a b hx) rfl rfl (Nat.le_of_ble_eq_true rfl) dL_areRows_309 (st' := [.int r21]) rfl rfl ?_
              refine lm_iload C dL_areRows_312 6 rfl rfl ?_
              refine lm_aload_n C dL_areRows_314 rfl 1 rfl rfl ?_
              refine lm_bipush C (v := (7 : Int32)) dL_areRows_315 (by decide) rfl ?_
              refine lm_iald C (v := (hx 9 0 7)) 141 rfl (by unfold vp_in; decide) rfl dL_areRows_317 rfl ?_
              refine lm_icmp_ge C (tgt := 325) dL_areRows_318 (by decide) rfl (fun c22 => ?_) (fun c22 => ?_)
              · have hF := lm_brt hF c22
                refine lm_iconst C (v := (0 : Int32)) dL_areRows_325 (by decide) rfl ?_
                refine lm_icmp_ne C (tgt := 333) dL_areRows_326 (by decide) rfl (fun c23 => ?_) (fun c23 => ?_)
                · have hF := lm_brt hF c23
                  refine lm_iconst C (v := (0 : Int32)) dL_areRows_333 (by decide) rfl ?_
                  refine lm_istore C (lv' := [(0, .ref (m 0)), (1, .ref (b 0)), (2, .ref (b 1)), (3, .ref (b 2)), (5, .int (0 : Int32)), (6, .int t13), (7, .int x7)]) dL_areRows_334 (by decide) rfl [1, 2, 3, 4, 0, 5, 6] rfl rfl ?_
                  refine lm_iinc C (lv' := [(0, .ref (m 0)), (1, .ref (b 0)), (2, .ref (b 1)), (3, .ref (b 2)), (5, .int (0 : Int32)), (6, .int t13), (7, .int (x7 + (1 : Int32)))]) (x7 + (1 : Int32)) dL_areRows_336 6 rfl rfl (by decide) rfl [1, 2, 3, 4, 5, 6, 0] rfl rfl ?_
                  refine lm_goto C (tgt := 228) dL_areRows_339 (by decide) ?_
                  exact ih hx (0 : Int32) t13 (x7 + (1 : Int32)) hF
                · have hF := lm_brf hF c23
                  refine lm_iconst C (v := (1 : Int32)) dL_areRows_329 (by decide) rfl ?_
                  refine lm_goto C (tgt := 334) dL_areRows_330 (by decide) ?_
                  refine lm_istore C (lv' := [(0, .ref (m 0)), (1, .ref (b 0)), (2, .ref (b 1)), (3, .ref (b 2)), (5, .int (1 : Int32)), (6, .int t13), (7, .int x7)]) dL_areRows_334 (by decide) rfl [1, 2, 3, 4, 0, 5, 6] rfl rfl ?_
                  refine lm_iinc C (lv' := [(0, .ref (m 0)), (1, .ref (b 0)), (2, .ref (b 1)), (3, .ref (b 2)), (5, .int (1 : Int32)), (6, .int t13), (7, .int (x7 + (1 : Int32)))]) (x7 + (1 : Int32)) dL_areRows_336 6 rfl rfl (by decide) rfl [1, 2, 3, 4, 5, 6, 0] rfl rfl ?_
                  refine lm_goto C (tgt := 228) dL_areRows_339 (by decide) ?_
                  exact ih hx (1 : Int32) t13 (x7 + (1 : Int32)) hF
              · have hF := lm_brf hF c22
                refine lm_iconst C (v := (1 : Int32)) dL_areRows_321 (by decide) rfl ?_
                refine lm_goto C (tgt := 326) dL_areRows_322 (by decide) ?_
                refine lm_icmp_ne C (tgt := 333) dL_areRows_326 (by decide) rfl (fun c24 => ?_) (fun c24 => ?_)
                · have hF := lm_brt hF c24
                  refine lm_iconst C (v := (0 : Int32)) dL_areRows_333 (by decide) rfl ?_
                  refine lm_istore C (lv' := [(0, .ref (m 0)), (1, .ref (b 0)), (2, .ref (b 1)), (3, .ref (b 2)), (5, .int (0 : Int32)), (6, .int t13), (7, .int x7)]) dL_areRows_334 (by decide) rfl [1, 2, 3, 4, 0, 5, 6] rfl rfl ?_
                  refine lm_iinc C (lv' := [(0, .ref (m 0)), (1, .ref (b 0)), (2, .ref (b 1)), (3, .ref (b 2)), (5, .int (0 : Int32)), (6, .int t13), (7, .int (x7 + (1 : Int32)))]) (x7 + (1 : Int32)) dL_areRows_336 6 rfl rfl (by decide) rfl [1, 2, 3, 4, 5, 6, 0] rfl rfl ?_
                  refine lm_goto C (tgt := 228) dL_areRows_339 (by decide) ?_
                  exact ih hx (0 : Int32) t13 (x7 + (1 : Int32)) hF
                · have hF := lm_brf hF c24
                  refine lm_iconst C (v := (1 : Int32)) dL_areRows_329 (by decide) rfl ?_
                  refine lm_goto C (tgt := 334) dL_areRows_330 (by decide) ?_
                  refine lm_istore C (lv' := [(0, .ref (m 0)), (1, .ref (b 0)), (2, .ref (b 1)), (3, .ref (b 2)), (5, .int (1 : Int32)), (6, .int t13), (7, .int x7)]) dL_areRows_334 (by decide) rfl [1, 2, 3, 4, 0, 5, 6] rfl rfl ?_
                  refine lm_iinc C (lv' := [(0, .ref (m 0)), (1, .ref (b 0)), (2, .ref (b 1)), (3, .ref (b 2)), (5, .int (1 : Int32)), (6, .int t13), (7, .int (x7 + (1 : Int32)))]) (x7 + (1 : Int32)) dL_areRows_336 6 rfl rfl (by decide) rfl [1, 2, 3, 4, 5, 6, 0] rfl rfl ?_
                  refine lm_goto C (tgt := 228) dL_areRows_339 (by decide) ?_
                  exact ih hx (1 : Int32) t13 (x7 + (1 : Int32)) hF
  have loop_93 : ∀ (n : Nat) (hx : Nat → Hp) (x5 : Int32) (x6 : Int32) (x7 : Int32), F_L_areRows_L93 n hx x5 x6 x7 = some r → lm_St p l e ({ frames := 3, cells := 0, slots := 0, locals := 68 }) s m_ args below meth c D (fun _ => False) 9 0 0 (lm_EndR below (some (.int r)) args s) true (lwMW z zo m a b hx) 93 [(0, .ref (m 0)), (1, .ref (b 0)), (2, .ref (b 1)), (3, .ref (b 2)), (4, .ref (b 3)), (5, .int x5), (6, .int x6), (7, .int x7)] [] := by
    intro n
    induction n with
    | zero => intro hx x5 x6 x7 hF; cases (show (none : Option _) = some _ from hF)
    | succ n ih =>
      intro hx x5 x6 x7 hF
      rw [F_L_areRows_L93] at hF
      refine lm_iload C dL_areRows_93 7 rfl rfl ?_
      refine lm_aload_n C dL_areRows_95 rfl 1 rfl rfl ?_
      refine lm_iconst C (v := (5 : Int32)) dL_areRows_96 (by decide) rfl ?_
      refine lm_iald C (v := (hx 9 0 5)) 141 rfl (by unfold vp_in; decide) rfl dL_areRows_97 rfl ?_
      refine lm_icmp_ge C (tgt := 225) dL_areRows_98 (by decide) rfl (fun c3 => ?_) (fun c3 => ?_)
      · have hF := lm_brt hF c3
        refine lm_iconst C (v := (0 : Int32)) dL_areRows_225 (by decide) rfl ?_
        refine lm_istore C (lv' := [(0, .ref (m 0)), (1, .ref (b 0)), (2, .ref (b 1)), (3, .ref (b 2)), (4, .ref (b 3)), (5, .int x5), (6, .int x6), (7, .int (0 : Int32))]) dL_areRows_226 (by decide) rfl [1, 2, 3, 4, 5, 6, 7, 0] rfl rfl ?_
        refine lm_lvsub (lv' := [(0, .ref (m 0)), (1, .ref (b 0)), (2, .ref (b 1)), (3, .ref (b 2)), (5, .int x5), (6, .int x6), (7, .int (0 : Int32))]) [0, 1, 2, 3, 5, 6, 7] rfl ?_
        exact loop_228 1000 hx x5 x6 (0 : Int32) hF
      · have hF := lm_brf hF c3
        refine lm_aload C dL_areRows_101 4 rfl rfl ?_
        refine lm_aload_n C dL_areRows_103 rfl 2 rfl rfl ?_
        refine lm_iconst C (v := (2 : Int32)) dL_areRows_104 (by decide) rfl ?_
        refine lm_iload C dL_areRows_105 7 rfl rfl ?_
        refine lm_imul C dL_areRows_107 rfl rfl ?_
        obtain ⟨b25, hF⟩ := lm_gie hF
        refine lm_iald C (v := (hx 9 1 (((2 : Int32) * x7)).toNatClampNeg)) 142 rfl b25 rfl dL_areRows_108 rfl ?_
        obtain ⟨r26, qr26, hF⟩ := lm_bde hF
        refine lm_callSR C (n := 2) (m_L_has D z zo l (lw_f1 (b 3)) (lw_f1 (hx 9 3)) (hx 9 1 (((2 : Int32) * x7)).toNatClampNeg) r26 qr26) gL_areRows_L_has rfl (by decide +kernel) ⟨Nat.le_of_ble_eq_true rfl, Nat.le_of_ble_eq_true rfl⟩ ⟨Nat.le_of_ble_eq_true rfl, Nat.le_of_ble_eq_true rfl⟩ (fun q hq => lw_s6 z zo m a b hx q (lw_hsub [3] rfl q hq)) rfl rfl (Nat.le_of_ble_eq_true rfl) dL_areRows_109 (st' := [.int r26]) rfl rfl ?_
        refine lm_if_eq C (tgt := 147) dL_areRows_112 (by decide) rfl (fun c27 => ?_) (fun c27 => ?_)
        · have hF := lm_brt hF c27
          refine lm_iconst C (v := (0 : Int32)) dL_areRows_147 (by decide) rfl ?_
          refine lm_istore C (lv' := [(0, .ref (m 0)), (1, .ref (b 0)), (2, .ref (b 1)), (3, .ref (b 2)), (4, .ref (b 3)), (5, .int x5), (6, .int x6), (7, .int x7), (8, .int (0 : Int32))]) dL_areRows_148 (by decide) rfl [1, 2, 3, 4, 5, 6, 7, 8, 0] rfl rfl ?_
          refine lm_iload C dL_areRows_150 5 rfl rfl ?_
          refine lm_if_eq C (tgt := 216) dL_areRows_152 (by decide) rfl (fun c28 => ?_) (fun c28 => ?_)
          · have hF := lm_brt hF c28
            refine lm_iconst C (v := (0 : Int32)) dL_areRows_216 (by decide) rfl ?_
            refine lm_istore C (lv' := [(0, .ref (m 0)), (1, .ref (b 0)), (2, .ref (b 1)), (3, .ref (b 2)), (4, .ref (b 3)), (5, .int (0 : Int32)), (6, .int x6), (7, .int x7), (8, .int (0 : Int32))]) dL_areRows_217 (by decide) rfl [1, 2, 3, 4, 5, 0, 6, 7, 8] rfl rfl ?_
            refine lm_iinc C (lv' := [(0, .ref (m 0)), (1, .ref (b 0)), (2, .ref (b 1)), (3, .ref (b 2)), (4, .ref (b 3)), (5, .int (0 : Int32)), (6, .int x6), (7, .int (x7 + (1 : Int32))), (8, .int (0 : Int32))]) (x7 + (1 : Int32)) dL_areRows_219 7 rfl rfl (by decide) rfl [1, 2, 3, 4, 5, 6, 7, 0, 8] rfl rfl ?_
            refine lm_goto C (tgt := 93) dL_areRows_222 (by decide) ?_
            refine lm_lvsub (lv' := [(0, .ref (m 0)), (1, .ref (b 0)), (2, .ref (b 1)), (3, .ref (b 2)), (4, .ref (b 3)), (5, .int (0 : Int32)), (6, .int x6), (7, .int (x7 + (1 : Int32)))]) [0, 1, 2, 3, 4, 5, 6, 7] rfl ?_
            exact ih hx (0 : Int32) x6 (x7 + (1 : Int32)) hF
          · have hF := lm_brf hF c28
            refine lm_aload_n C dL_areRows_155 rfl 0 rfl rfl ?_
            refine lm_iconst C (v := (1 : Int32)) dL_areRows_156 (by decide) rfl ?_
            refine lm_iload C dL_areRows_157 7 rfl rfl ?_
            refine lm_iconst C (v := (0 : Int32)) dL_areRows_159 (by decide) rfl ?_
            obtain ⟨r29, qr29, hF⟩ := lm_bde hF
            refine lm_callVR C (n := 3) (ci := 6) (m_X6_row D z zo l m a hx (1 : Int32) x7 (0 : Int32) r29 qr29) gL_areRows_X6_row rfl (by decide +kernel) ⟨Nat.le_of_ble_eq_true rfl, Nat.le_of_ble_eq_true rfl⟩ ⟨Nat.le_of_ble_eq_true rfl, Nat.le_of_ble_eq_true rfl⟩ 0 rfl rfl (lw_sm z zo m a b hx) rfl rfl (Nat.le_of_ble_eq_true rfl) dL_areRows_160 (st' := [.int r29]) rfl rfl ?_
            refine lm_aload_n C dL_areRows_163 rfl 2 rfl rfl ?_
            refine lm_iconst C (v := (2 : Int32)) dL_areRows_164 (by decide) rfl ?_
            refine lm_iload C dL_areRows_165 7 rfl rfl ?_
            refine lm_imul C dL_areRows_167 rfl rfl ?_
            obtain ⟨b30, hF⟩ := lm_gie hF
            refine lm_iald C (v := (hx 9 1 (((2 : Int32) * x7)).toNatClampNeg)) 142 rfl b30 rfl dL_areRows_168 rfl ?_
            refine lm_icmp_ne C (tgt := 216) dL_areRows_169 (by decide) rfl (fun c31 => ?_) (fun c31 => ?_)
            · have hF := lm_brt hF c31
              refine lm_iconst C (v := (0 : Int32)) dL_areRows_216 (by decide) rfl ?_
              refine lm_istore C (lv' := [(0, .ref (m 0)), (1, .ref (b 0)), (2, .ref (b 1)), (3, .ref (b 2)), (4, .ref (b 3)), (5, .int (0 : Int32)), (6, .int x6), (7, .int x7), (8, .int (0 : Int32))]) dL_areRows_217 (by decide) rfl [1, 2, 3, 4, 5, 0, 6, 7, 8] rfl rfl ?_
              refine lm_iinc C (lv' := [(0, .ref (m 0)), (1, .ref (b 0)), (2, .ref (b 1)), (3, .ref (b 2)), (4, .ref (b 3)), (5, .int (0 : Int32)), (6, .int x6), (7, .int (x7 + (1 : Int32))), (8, .int (0 : Int32))]) (x7 + (1 : Int32)) dL_areRows_219 7 rfl rfl (by decide) rfl [1, 2, 3, 4, 5, 6, 7, 0, 8] rfl rfl ?_
              refine lm_goto C (tgt := 93) dL_areRows_222 (by decide) ?_
              refine lm_lvsub (lv' := [(0, .ref (m 0)), (1, .ref (b 0)), (2, .ref (b 1)), (3, .ref (b 2)), (4, .ref (b 3)), (5, .int (0 : Int32)), (6, .int x6), (7, .int (x7 + (1 : Int32)))]) [0, 1, 2, 3, 4, 5, 6, 7] rfl ?_
              exact ih hx (0 : Int32) x6 (x7 + (1 : Int32)) hF
            · have hF := lm_brf hF c31
              refine lm_aload_n C dL_areRows_172 rfl 0 rfl rfl ?_
              refine lm_iconst C (v := (1 : Int32)) dL_areRows_173 (by decide) rfl ?_
              refine lm_iload C dL_areRows_174 7 rfl rfl ?_
              refine lm_iconst C (v := (1 : Int32)) dL_areRows_176 (by decide) rfl ?_
              obtain ⟨r32, qr32, hF⟩ := lm_bde hF
              refine lm_callVR C (n := 3) (ci := 6) (m_X6_row D z zo l m a hx (1 : Int32) x7 (1 : Int32) r32 qr32) gL_areRows_X6_row rfl (by decide +kernel) ⟨Nat.le_of_ble_eq_true rfl, Nat.le_of_ble_eq_true rfl⟩ ⟨Nat.le_of_ble_eq_true rfl, Nat.le_of_ble_eq_true rfl⟩ 0 rfl rfl (lw_sm z zo m a b hx) rfl rfl (Nat.le_of_ble_eq_true rfl) dL_areRows_177 (st' := [.int r32]) rfl rfl ?_
              refine lm_aload_n C dL_areRows_180 rfl 2 rfl rfl ?_
              refine lm_iconst C (v := (2 : Int32)) dL_areRows_181 (by decide) rfl ?_
              refine lm_iload C dL_areRows_182 7 rfl rfl ?_
              refine lm_imul C dL_areRows_184 rfl rfl ?_
              refine lm_iconst C (v := (1 : Int32)) dL_areRows_185 (by decide) rfl ?_
              refine lm_iadd C dL_areRows_186 rfl rfl ?_
              obtain ⟨b33, hF⟩ := lm_gie hF
              refine lm_iald C (v := (hx 9 1 ((((2 : Int32) * x7) + (1 : Int32))).toNatClampNeg)) 142 rfl b33 rfl dL_areRows_187 rfl ?_
              refine lm_icmp_ne C (tgt := 216) dL_areRows_188 (by decide) rfl (fun c34 => ?_) (fun c34 => ?_)
              · have hF := lm_brt hF c34
                refine lm_iconst C (v := (0 : Int32)) dL_areRows_216 (by decide) rfl ?_
                refine lm_istore C (lv' := [(0, .ref (m 0)), (1, .ref (b 0)), (2, .ref (b 1)), (3, .ref (b 2)), (4, .ref (b 3)), (5, .int (0 : Int32)), (6, .int x6), (7, .int x7), (8, .int (0 : Int32))]) dL_areRows_217 (by decide) rfl [1, 2, 3, 4, 5, 0, 6, 7, 8] rfl rfl ?_
                refine lm_iinc C (lv' := [(0, .ref (m 0)), (1, .ref (b 0)), (2, .ref (b 1)), (3, .ref (b 2)), (4, .ref (b 3)), (5, .int (0 : Int32)), (6, .int x6), (7, .int (x7 + (1 : Int32))), (8, .int (0 : Int32))]) (x7 + (1 : Int32)) dL_areRows_219 7 rfl rfl (by decide) rfl [1, 2, 3, 4, 5, 6, 7, 0, 8] rfl rfl ?_
                refine lm_goto C (tgt := 93) dL_areRows_222 (by decide) ?_
                refine lm_lvsub (lv' := [(0, .ref (m 0)), (1, .ref (b 0)), (2, .ref (b 1)), (3, .ref (b 2)), (4, .ref (b 3)), (5, .int (0 : Int32)), (6, .int x6), (7, .int (x7 + (1 : Int32)))]) [0, 1, 2, 3, 4, 5, 6, 7] rfl ?_
                exact ih hx (0 : Int32) x6 (x7 + (1 : Int32)) hF
              · have hF := lm_brf hF c34
                refine lm_aload_n C dL_areRows_191 rfl 0 rfl rfl ?_
                refine lm_iconst C (v := (1 : Int32)) dL_areRows_192 (by decide) rfl ?_
                refine lm_iload C dL_areRows_193 7 rfl rfl ?_
                refine lm_iconst C (v := (2 : Int32)) dL_areRows_195 (by decide) rfl ?_
                obtain ⟨r35, qr35, hF⟩ := lm_bde hF
                refine lm_callVR C (n := 3) (ci := 6) (m_X6_row D z zo l m a hx (1 : Int32) x7 (2 : Int32) r35 qr35) gL_areRows_X6_row rfl (by decide +kernel) ⟨Nat.le_of_ble_eq_true rfl, Nat.le_of_ble_eq_true rfl⟩ ⟨Nat.le_of_ble_eq_true rfl, Nat.le_of_ble_eq_true rfl⟩ 0 rfl rfl (lw_sm z zo m a b hx) rfl rfl (Nat.le_of_ble_eq_true rfl) dL_areRows_196 (st' := [.int r35]) rfl rfl ?_
                refine lm_iload C dL_areRows_199 8 rfl rfl ?_
                refine lm_if_eq C (tgt := 208) dL_areRows_201 (by decide) rfl (fun c36 => ?_) (fun c36 => ?_)
                · refine lm_iconst C (v := (0 : Int32)) dL_areRows_208 (by decide) rfl ?_
                  refine lm_icmp_ne C (tgt := 216) dL_areRows_209 (by decide) rfl (fun c37 => ?_) (fun c37 => ?_)
                  · have hF := lm_brt hF c37
                    refine lm_iconst C (v := (0 : Int32)) dL_areRows_216 (by decide) rfl ?_
                    refine lm_istore C (lv' := [(0, .ref (m 0)), (1, .ref (b 0)), (2, .ref (b 1)), (3, .ref (b 2)), (4, .ref (b 3)), (5, .int (0 : Int32)), (6, .int x6), (7, .int x7), (8, .int (0 : Int32))]) dL_areRows_217 (by decide) rfl [1, 2, 3, 4, 5, 0, 6, 7, 8] rfl rfl ?_
                    refine lm_iinc C (lv' := [(0, .ref (m 0)), (1, .ref (b 0)), (2, .ref (b 1)), (3, .ref (b 2)), (4, .ref (b 3)), (5, .int (0 : Int32)), (6, .int x6), (7, .int (x7 + (1 : Int32))), (8, .int (0 : Int32))]) (x7 + (1 : Int32)) dL_areRows_219 7 rfl rfl (by decide) rfl [1, 2, 3, 4, 5, 6, 7, 0, 8] rfl rfl ?_
                    refine lm_goto C (tgt := 93) dL_areRows_222 (by decide) ?_
                    refine lm_lvsub (lv' := [(0, .ref (m 0)), (1, .ref (b 0)), (2, .ref (b 1)), (3, .ref (b 2)), (4, .ref (b 3)), (5, .int (0 : Int32)), (6, .int x6), (7, .int (x7 + (1 : Int32)))]) [0, 1, 2, 3, 4, 5, 6, 7] rfl ?_
                    exact ih hx (0 : Int32) x6 (x7 + (1 : Int32)) hF
                  · have hF := lm_brf hF c37
                    refine lm_iconst C (v := (1 : Int32)) dL_areRows_212 (by decide) rfl ?_
                    refine lm_goto C (tgt := 217) dL_areRows_213 (by decide) ?_
                    refine lm_istore C (lv' := [(0, .ref (m 0)), (1, .ref (b 0)), (2, .ref (b 1)), (3, .ref (b 2)), (4, .ref (b 3)), (5, .int (1 : Int32)), (6, .int x6), (7, .int x7), (8, .int (0 : Int32))]) dL_areRows_217 (by decide) rfl [1, 2, 3, 4, 5, 0, 6, 7, 8] rfl rfl ?_
                    refine lm_iinc C (lv' := [(0, .ref (m 0)), (1, .ref (b 0)), (2, .ref (b 1)), (3, .ref (b 2)), (4, .ref (b 3)), (5, .int (1 : Int32)), (6, .int x6), (7, .int (x7 + (1 : Int32))), (8, .int (0 : Int32))]) (x7 + (1 : Int32)) dL_areRows_219 7 rfl rfl (by decide) rfl [1, 2, 3, 4, 5, 6, 7, 0, 8] rfl rfl ?_
                    refine lm_goto C (tgt := 93) dL_areRows_222 (by decide) ?_
                    refine lm_lvsub (lv' := [(0, .ref (m 0)), (1, .ref (b 0)), (2, .ref (b 1)), (3, .ref (b 2)), (4, .ref (b 3)), (5, .int (1 : Int32)), (6, .int x6), (7, .int (x7 + (1 : Int32)))]) [0, 1, 2, 3, 4, 5, 6, 7] rfl ?_
                    exact ih hx (1 : Int32) x6 (x7 + (1 : Int32)) hF
                · exact absurd (by decide) c36
        · have hF := lm_brf hF c27
          refine lm_aload_n C dL_areRows_115 rfl 2 rfl rfl ?_
          refine lm_iconst C (v := (2 : Int32)) dL_areRows_116 (by decide) rfl ?_
          refine lm_iload C dL_areRows_117 7 rfl rfl ?_
          refine lm_imul C dL_areRows_119 rfl rfl ?_
          refine lm_iconst C (v := (1 : Int32)) dL_areRows_120 (by decide) rfl ?_
          refine lm_iadd C dL_areRows_121 rfl rfl ?_
          obtain ⟨b38, hF⟩ := lm_gie hF
          refine lm_iald C (v := (hx 9 1 ((((2 : Int32) * x7) + (1 : Int32))).toNatClampNeg)) 142 rfl b38 rfl dL_areRows_122 rfl ?_
          refine lm_aload_n C dL_areRows_123 rfl 1 rfl rfl ?_
          refine lm_iconst C (v := (3 : Int32)) dL_areRows_124 (by decide) rfl ?_
          refine lm_iald C (v := (hx 9 0 3)) 141 rfl (by unfold vp_in; decide) rfl dL_areRows_125 rfl ?_
          refine lm_icmp_lt C (tgt := 147) dL_areRows_126 (by decide) rfl (fun c39 => ?_) (fun c39 => ?_)
          · have hF := lm_brt hF c39
            refine lm_iconst C (v := (0 : Int32)) dL_areRows_147 (by decide) rfl ?_
            refine lm_istore C (lv' := [(0, .ref (m 0)), (1, .ref (b 0)), (2, .ref (b 1)), (3, .ref (b 2)), (4, .ref (b 3)), (5, .int x5), (6, .int x6), (7, .int x7), (8, .int (0 : Int32))]) dL_areRows_148 (by decide) rfl [1, 2, 3, 4, 5, 6, 7, 8, 0] rfl rfl ?_
            refine lm_iload C dL_areRows_150 5 rfl rfl ?_
            refine lm_if_eq C (tgt := 216) dL_areRows_152 (by decide) rfl (fun c40 => ?_) (fun c40 => ?_)
            · have hF := lm_brt hF c40
              refine lm_iconst C (v := (0 : Int32)) dL_areRows_216 (by decide) rfl ?_
              refine lm_istore C (lv' := [(0, .ref (m 0)), (1, .ref (b 0)), (2, .ref (b 1)), (3, .ref (b 2)), (4, .ref (b 3)), (5, .int (0 : Int32)), (6, .int x6), (7, .int x7), (8, .int (0 : Int32))]) dL_areRows_217 (by decide) rfl [1, 2, 3, 4, 5, 0, 6, 7, 8] rfl rfl ?_
              refine lm_iinc C (lv' := [(0, .ref (m 0)), (1, .ref (b 0)), (2, .ref (b 1)), (3, .ref (b 2)), (4, .ref (b 3)), (5, .int (0 : Int32)), (6, .int x6), (7, .int (x7 + (1 : Int32))), (8, .int (0 : Int32))]) (x7 + (1 : Int32)) dL_areRows_219 7 rfl rfl (by decide) rfl [1, 2, 3, 4, 5, 6, 7, 0, 8] rfl rfl ?_
              refine lm_goto C (tgt := 93) dL_areRows_222 (by decide) ?_
              refine lm_lvsub (lv' := [(0, .ref (m 0)), (1, .ref (b 0)), (2, .ref (b 1)), (3, .ref (b 2)), (4, .ref (b 3)), (5, .int (0 : Int32)), (6, .int x6), (7, .int (x7 + (1 : Int32)))]) [0, 1, 2, 3, 4, 5, 6, 7] rfl ?_
              exact ih hx (0 : Int32) x6 (x7 + (1 : Int32)) hF
            · have hF := lm_brf hF c40
              refine lm_aload_n C dL_areRows_155 rfl 0 rfl rfl ?_
              refine lm_iconst C (v := (1 : Int32)) dL_areRows_156 (by decide) rfl ?_
              refine lm_iload C dL_areRows_157 7 rfl rfl ?_
              refine lm_iconst C (v := (0 : Int32)) dL_areRows_159 (by decide) rfl ?_
              obtain ⟨r41, qr41, hF⟩ := lm_bde hF
              refine lm_callVR C (n := 3) (ci := 6) (m_X6_row D z zo l m a hx (1 : Int32) x7 (0 : Int32) r41 qr41) gL_areRows_X6_row rfl (by decide +kernel) ⟨Nat.le_of_ble_eq_true rfl, Nat.le_of_ble_eq_true rfl⟩ ⟨Nat.le_of_ble_eq_true rfl, Nat.le_of_ble_eq_true rfl⟩ 0 rfl rfl (lw_sm z zo m a b hx) rfl rfl (Nat.le_of_ble_eq_true rfl) dL_areRows_160 (st' := [.int r41]) rfl rfl ?_
              refine lm_aload_n C dL_areRows_163 rfl 2 rfl rfl ?_
              refine lm_iconst C (v := (2 : Int32)) dL_areRows_164 (by decide) rfl ?_
              refine lm_iload C dL_areRows_165 7 rfl rfl ?_
              refine lm_imul C dL_areRows_167 rfl rfl ?_
              obtain ⟨b42, hF⟩ := lm_gie hF
              refine lm_iald C (v := (hx 9 1 (((2 : Int32) * x7)).toNatClampNeg)) 142 rfl b42 rfl dL_areRows_168 rfl ?_
              refine lm_icmp_ne C (tgt := 216) dL_areRows_169 (by decide) rfl (fun c43 => ?_) (fun c43 => ?_)
              · have hF := lm_brt hF c43
                refine lm_iconst C (v := (0 : Int32)) dL_areRows_216 (by decide) rfl ?_
                refine lm_istore C (lv' := [(0, .ref (m 0)), (1, .ref (b 0)), (2, .ref (b 1)), (3, .ref (b 2)), (4, .ref (b 3)), (5, .int (0 : Int32)), (6, .int x6), (7, .int x7), (8, .int (0 : Int32))]) dL_areRows_217 (by decide) rfl [1, 2, 3, 4, 5, 0, 6, 7, 8] rfl rfl ?_
                refine lm_iinc C (lv' := [(0, .ref (m 0)), (1, .ref (b 0)), (2, .ref (b 1)), (3, .ref (b 2)), (4, .ref (b 3)), (5, .int (0 : Int32)), (6, .int x6), (7, .int (x7 + (1 : Int32))), (8, .int (0 : Int32))]) (x7 + (1 : Int32)) dL_areRows_219 7 rfl rfl (by decide) rfl [1, 2, 3, 4, 5, 6, 7, 0, 8] rfl rfl ?_
                refine lm_goto C (tgt := 93) dL_areRows_222 (by decide) ?_
                refine lm_lvsub (lv' := [(0, .ref (m 0)), (1, .ref (b 0)), (2, .ref (b 1)), (3, .ref (b 2)), (4, .ref (b 3)), (5, .int (0 : Int32)), (6, .int x6), (7, .int (x7 + (1 : Int32)))]) [0, 1, 2, 3, 4, 5, 6, 7] rfl ?_
                exact ih hx (0 : Int32) x6 (x7 + (1 : Int32)) hF
              · have hF := lm_brf hF c43
                refine lm_aload_n C dL_areRows_172 rfl 0 rfl rfl ?_
                refine lm_iconst C (v := (1 : Int32)) dL_areRows_173 (by decide) rfl ?_
                refine lm_iload C dL_areRows_174 7 rfl rfl ?_
                refine lm_iconst C (v := (1 : Int32)) dL_areRows_176 (by decide) rfl ?_
                obtain ⟨r44, qr44, hF⟩ := lm_bde hF
                refine lm_callVR C (n := 3) (ci := 6) (m_X6_row D z zo l m a hx (1 : Int32) x7 (1 : Int32) r44 qr44) gL_areRows_X6_row rfl (by decide +kernel) ⟨Nat.le_of_ble_eq_true rfl, Nat.le_of_ble_eq_true rfl⟩ ⟨Nat.le_of_ble_eq_true rfl, Nat.le_of_ble_eq_true rfl⟩ 0 rfl rfl (lw_sm z zo m a b hx) rfl rfl (Nat.le_of_ble_eq_true rfl) dL_areRows_177 (st' := [.int r44]) rfl rfl ?_
                refine lm_aload_n C dL_areRows_180 rfl 2 rfl rfl ?_
                refine lm_iconst C (v := (2 : Int32)) dL_areRows_181 (by decide) rfl ?_
                refine lm_iload C dL_areRows_182 7 rfl rfl ?_
                refine lm_imul C dL_areRows_184 rfl rfl ?_
                refine lm_iconst C (v := (1 : Int32)) dL_areRows_185 (by decide) rfl ?_
                refine lm_iadd C dL_areRows_186 rfl rfl ?_
                obtain ⟨b45, hF⟩ := lm_gie hF
                refine lm_iald C (v := (hx 9 1 ((((2 : Int32) * x7) + (1 : Int32))).toNatClampNeg)) 142 rfl b45 rfl dL_areRows_187 rfl ?_
                refine lm_icmp_ne C (tgt := 216) dL_areRows_188 (by decide) rfl (fun c46 => ?_) (fun c46 => ?_)
                · have hF := lm_brt hF c46
                  refine lm_iconst C (v := (0 : Int32)) dL_areRows_216 (by decide) rfl ?_
                  refine lm_istore C (lv' := [(0, .ref (m 0)), (1, .ref (b 0)), (2, .ref (b 1)), (3, .ref (b 2)), (4, .ref (b 3)), (5, .int (0 : Int32)), (6, .int x6), (7, .int x7), (8, .int (0 : Int32))]) dL_areRows_217 (by decide) rfl [1, 2, 3, 4, 5, 0, 6, 7, 8] rfl rfl ?_
                  refine lm_iinc C (lv' := [(0, .ref (m 0)), (1, .ref (b 0)), (2, .ref (b 1)), (3, .ref (b 2)), (4, .ref (b 3)), (5, .int (0 : Int32)), (6, .int x6), (7, .int (x7 + (1 : Int32))), (8, .int (0 : Int32))]) (x7 + (1 : Int32)) dL_areRows_219 7 rfl rfl (by decide) rfl [1, 2, 3, 4, 5, 6, 7, 0, 8] rfl rfl ?_
                  refine lm_goto C (tgt := 93) dL_areRows_222 (by decide) ?_
                  refine lm_lvsub (lv' := [(0, .ref (m 0)), (1, .ref (b 0)), (2, .ref (b 1)), (3, .ref (b 2)), (4, .ref (b 3)), (5, .int (0 : Int32)), (6, .int x6), (7, .int (x7 + (1 : Int32)))]) [0, 1, 2, 3, 4, 5, 6, 7] rfl ?_
                  exact ih hx (0 : Int32) x6 (x7 + (1 : Int32)) hF
                · have hF := lm_brf hF c46
                  refine lm_aload_n C dL_areRows_191 rfl 0 rfl rfl ?_
                  refine lm_iconst C (v := (1 : Int32)) dL_areRows_192 (by decide) rfl ?_
                  refine lm_iload C dL_areRows_193 7 rfl rfl ?_
                  refine lm_iconst C (v := (2 : Int32)) dL_areRows_195 (by decide) rfl ?_
                  obtain ⟨r47, qr47, hF⟩ := lm_bde hF
                  refine lm_callVR C (n := 3) (ci := 6) (m_X6_row D z zo l m a hx (1 : Int32) x7 (2 : Int32) r47 qr47) gL_areRows_X6_row rfl (by decide +kernel) ⟨Nat.le_of_ble_eq_true rfl, Nat.le_of_ble_eq_true rfl⟩ ⟨Nat.le_of_ble_eq_true rfl, Nat.le_of_ble_eq_true rfl⟩ 0 rfl rfl (lw_sm z zo m a b hx) rfl rfl (Nat.le_of_ble_eq_true rfl) dL_areRows_196 (st' := [.int r47]) rfl rfl ?_
                  refine lm_iload C dL_areRows_199 8 rfl rfl ?_
                  refine lm_if_eq C (tgt := 208) dL_areRows_201 (by decide) rfl (fun c48 => ?_) (fun c48 => ?_)
                  · refine lm_iconst C (v := (0 : Int32)) dL_areRows_208 (by decide) rfl ?_
                    refine lm_icmp_ne C (tgt := 216) dL_areRows_209 (by decide) rfl (fun c49 => ?_) (fun c49 => ?_)
                    · have hF := lm_brt hF c49
                      refine lm_iconst C (v := (0 : Int32)) dL_areRows_216 (by decide) rfl ?_
                      refine lm_istore C (lv' := [(0, .ref (m 0)), (1, .ref (b 0)), (2, .ref (b 1)), (3, .ref (b 2)), (4, .ref (b 3)), (5, .int (0 : Int32)), (6, .int x6), (7, .int x7), (8, .int (0 : Int32))]) dL_areRows_217 (by decide) rfl [1, 2, 3, 4, 5, 0, 6, 7, 8] rfl rfl ?_
                      refine lm_iinc C (lv' := [(0, .ref (m 0)), (1, .ref (b 0)), (2, .ref (b 1)), (3, .ref (b 2)), (4, .ref (b 3)), (5, .int (0 : Int32)), (6, .int x6), (7, .int (x7 + (1 : Int32))), (8, .int (0 : Int32))]) (x7 + (1 : Int32)) dL_areRows_219 7 rfl rfl (by decide) rfl [1, 2, 3, 4, 5, 6, 7, 0, 8] rfl rfl ?_
                      refine lm_goto C (tgt := 93) dL_areRows_222 (by decide) ?_
                      refine lm_lvsub (lv' := [(0, .ref (m 0)), (1, .ref (b 0)), (2, .ref (b 1)), (3, .ref (b 2)), (4, .ref (b 3)), (5, .int (0 : Int32)), (6, .int x6), (7, .int (x7 + (1 : Int32)))]) [0, 1, 2, 3, 4, 5, 6, 7] rfl ?_
                      exact ih hx (0 : Int32) x6 (x7 + (1 : Int32)) hF
                    · have hF := lm_brf hF c49
                      refine lm_iconst C (v := (1 : Int32)) dL_areRows_212 (by decide) rfl ?_
                      refine lm_goto C (tgt := 217) dL_areRows_213 (by decide) ?_
                      refine lm_istore C (lv' := [(0, .ref (m 0)), (1, .ref (b 0)), (2, .ref (b 1)), (3, .ref (b 2)), (4, .ref (b 3)), (5, .int (1 : Int32)), (6, .int x6), (7, .int x7), (8, .int (0 : Int32))]) dL_areRows_217 (by decide) rfl [1, 2, 3, 4, 5, 0, 6, 7, 8] rfl rfl ?_
                      refine lm_iinc C (lv' := [(0, .ref (m 0)), (1, .ref (b 0)), (2, .ref (b 1)), (3, .ref (b 2)), (4, .ref (b 3)), (5, .int (1 : Int32)), (6, .int x6), (7, .int (x7 + (1 : Int32))), (8, .int (0 : Int32))]) (x7 + (1 : Int32)) dL_areRows_219 7 rfl rfl (by decide) rfl [1, 2, 3, 4, 5, 6, 7, 0, 8] rfl rfl ?_
                      refine lm_goto C (tgt := 93) dL_areRows_222 (by decide) ?_
                      refine lm_lvsub (lv' := [(0, .ref (m 0)), (1, .ref (b 0)), (2, .ref (b 1)), (3, .ref (b 2)), (4, .ref (b 3)), (5, .int (1 : Int32)), (6, .int x6), (7, .int (x7 + (1 : Int32)))]) [0, 1, 2, 3, 4, 5, 6, 7] rfl ?_
                      exact ih hx (1 : Int32) x6 (x7 + (1 : Int32)) hF
                  · exact absurd (by decide) c48
          · have hF := lm_brf hF c39
            refine lm_aload_n C dL_areRows_129 rfl 2 rfl rfl ?_
            refine lm_iconst C (v := (2 : Int32)) dL_areRows_130 (by decide) rfl ?_
            refine lm_iload C dL_areRows_131 7 rfl rfl ?_
            refine lm_imul C dL_areRows_133 rfl rfl ?_
            refine lm_iconst C (v := (1 : Int32)) dL_areRows_134 (by decide) rfl ?_
            refine lm_iadd C dL_areRows_135 rfl rfl ?_
            obtain ⟨b50, hF⟩ := lm_gie hF
            refine lm_iald C (v := (hx 9 1 ((((2 : Int32) * x7) + (1 : Int32))).toNatClampNeg)) 142 rfl b50 rfl dL_areRows_136 rfl ?_
            refine lm_aload_n C dL_areRows_137 rfl 1 rfl rfl ?_
            refine lm_iconst C (v := (4 : Int32)) dL_areRows_138 (by decide) rfl ?_
            refine lm_iald C (v := (hx 9 0 4)) 141 rfl (by unfold vp_in; decide) rfl dL_areRows_139 rfl ?_
            refine lm_icmp_gt C (tgt := 147) dL_areRows_140 (by decide) rfl (fun c51 => ?_) (fun c51 => ?_)
            · have hF := lm_brt hF c51
              refine lm_iconst C (v := (0 : Int32)) dL_areRows_147 (by decide) rfl ?_
              refine lm_istore C (lv' := [(0, .ref (m 0)), (1, .ref (b 0)), (2, .ref (b 1)), (3, .ref (b 2)), (4, .ref (b 3)), (5, .int x5), (6, .int x6), (7, .int x7), (8, .int (0 : Int32))]) dL_areRows_148 (by decide) rfl [1, 2, 3, 4, 5, 6, 7, 8, 0] rfl rfl ?_
              refine lm_iload C dL_areRows_150 5 rfl rfl ?_
              refine lm_if_eq C (tgt := 216) dL_areRows_152 (by decide) rfl (fun c52 => ?_) (fun c52 => ?_)
              · have hF := lm_brt hF c52
                refine lm_iconst C (v := (0 : Int32)) dL_areRows_216 (by decide) rfl ?_
                refine lm_istore C (lv' := [(0, .ref (m 0)), (1, .ref (b 0)), (2, .ref (b 1)), (3, .ref (b 2)), (4, .ref (b 3)), (5, .int (0 : Int32)), (6, .int x6), (7, .int x7), (8, .int (0 : Int32))]) dL_areRows_217 (by decide) rfl [1, 2, 3, 4, 5, 0, 6, 7, 8] rfl rfl ?_
                refine lm_iinc C (lv' := [(0, .ref (m 0)), (1, .ref (b 0)), (2, .ref (b 1)), (3, .ref (b 2)), (4, .ref (b 3)), (5, .int (0 : Int32)), (6, .int x6), (7, .int (x7 + (1 : Int32))), (8, .int (0 : Int32))]) (x7 + (1 : Int32)) dL_areRows_219 7 rfl rfl (by decide) rfl [1, 2, 3, 4, 5, 6, 7, 0, 8] rfl rfl ?_
                refine lm_goto C (tgt := 93) dL_areRows_222 (by decide) ?_
                refine lm_lvsub (lv' := [(0, .ref (m 0)), (1, .ref (b 0)), (2, .ref (b 1)), (3, .ref (b 2)), (4, .ref (b 3)), (5, .int (0 : Int32)), (6, .int x6), (7, .int (x7 + (1 : Int32)))]) [0, 1, 2, 3, 4, 5, 6, 7] rfl ?_
                exact ih hx (0 : Int32) x6 (x7 + (1 : Int32)) hF
              · have hF := lm_brf hF c52
                refine lm_aload_n C dL_areRows_155 rfl 0 rfl rfl ?_
                refine lm_iconst C (v := (1 : Int32)) dL_areRows_156 (by decide) rfl ?_
                refine lm_iload C dL_areRows_157 7 rfl rfl ?_
                refine lm_iconst C (v := (0 : Int32)) dL_areRows_159 (by decide) rfl ?_
                obtain ⟨r53, qr53, hF⟩ := lm_bde hF
                refine lm_callVR C (n := 3) (ci := 6) (m_X6_row D z zo l m a hx (1 : Int32) x7 (0 : Int32) r53 qr53) gL_areRows_X6_row rfl (by decide +kernel) ⟨Nat.le_of_ble_eq_true rfl, Nat.le_of_ble_eq_true rfl⟩ ⟨Nat.le_of_ble_eq_true rfl, Nat.le_of_ble_eq_true rfl⟩ 0 rfl rfl (lw_sm z zo m a b hx) rfl rfl (Nat.le_of_ble_eq_true rfl) dL_areRows_160 (st' := [.int r53]) rfl rfl ?_
                refine lm_aload_n C dL_areRows_163 rfl 2 rfl rfl ?_
                refine lm_iconst C (v := (2 : Int32)) dL_areRows_164 (by decide) rfl ?_
                refine lm_iload C dL_areRows_165 7 rfl rfl ?_
                refine lm_imul C dL_areRows_167 rfl rfl ?_
                obtain ⟨b54, hF⟩ := lm_gie hF
                refine lm_iald C (v := (hx 9 1 (((2 : Int32) * x7)).toNatClampNeg)) 142 rfl b54 rfl dL_areRows_168 rfl ?_
                refine lm_icmp_ne C (tgt := 216) dL_areRows_169 (by decide) rfl (fun c55 => ?_) (fun c55 => ?_)
                · have hF := lm_brt hF c55
                  refine lm_iconst C (v := (0 : Int32)) dL_areRows_216 (by decide) rfl ?_
                  refine lm_istore C (lv' := [(0, .ref (m 0)), (1, .ref (b 0)), (2, .ref (b 1)), (3, .ref (b 2)), (4, .ref (b 3)), (5, .int (0 : Int32)), (6, .int x6), (7, .int x7), (8, .int (0 : Int32))]) dL_areRows_217 (by decide) rfl [1, 2, 3, 4, 5, 0, 6, 7, 8] rfl rfl ?_
                  refine lm_iinc C (lv' := [(0, .ref (m 0)), (1, .ref (b 0)), (2, .ref (b 1)), (3, .ref (b 2)), (4, .ref (b 3)), (5, .int (0 : Int32)), (6, .int x6), (7, .int (x7 + (1 : Int32))), (8, .int (0 : Int32))]) (x7 + (1 : Int32)) dL_areRows_219 7 rfl rfl (by decide) rfl [1, 2, 3, 4, 5, 6, 7, 0, 8] rfl rfl ?_
                  refine lm_goto C (tgt := 93) dL_areRows_222 (by decide) ?_
                  refine lm_lvsub (lv' := [(0, .ref (m 0)), (1, .ref (b 0)), (2, .ref (b 1)), (3, .ref (b 2)), (4, .ref (b 3)), (5, .int (0 : Int32)), (6, .int x6), (7, .int (x7 + (1 : Int32)))]) [0, 1, 2, 3, 4, 5, 6, 7] rfl ?_
                  exact ih hx (0 : Int32) x6 (x7 + (1 : Int32)) hF
                · have hF := lm_brf hF c55
                  refine lm_aload_n C dL_areRows_172 rfl 0 rfl rfl ?_
                  refine lm_iconst C (v := (1 : Int32)) dL_areRows_173 (by decide) rfl ?_
                  refine lm_iload C dL_areRows_174 7 rfl rfl ?_
                  refine lm_iconst C (v := (1 : Int32)) dL_areRows_176 (by decide) rfl ?_
                  obtain ⟨r56, qr56, hF⟩ := lm_bde hF
                  refine lm_callVR C (n := 3) (ci := 6) (m_X6_row D z zo l m a hx (1 : Int32) x7 (1 : Int32) r56 qr56) gL_areRows_X6_row rfl (by decide +kernel) ⟨Nat.le_of_ble_eq_true rfl, Nat.le_of_ble_eq_true rfl⟩ ⟨Nat.le_of_ble_eq_true rfl, Nat.le_of_ble_eq_true rfl⟩ 0 rfl rfl (lw_sm z zo m a b hx) rfl rfl (Nat.le_of_ble_eq_true rfl) dL_areRows_177 (st' := [.int r56]) rfl rfl ?_
                  refine lm_aload_n C dL_areRows_180 rfl 2 rfl rfl ?_
                  refine lm_iconst C (v := (2 : Int32)) dL_areRows_181 (by decide) rfl ?_
                  refine lm_iload C dL_areRows_182 7 rfl rfl ?_
                  refine lm_imul C dL_areRows_184 rfl rfl ?_
                  refine lm_iconst C (v := (1 : Int32)) dL_areRows_185 (by decide) rfl ?_
                  refine lm_iadd C dL_areRows_186 rfl rfl ?_
                  obtain ⟨b57, hF⟩ := lm_gie hF
                  refine lm_iald C (v := (hx 9 1 ((((2 : Int32) * x7) + (1 : Int32))).toNatClampNeg)) 142 rfl b57 rfl dL_areRows_187 rfl ?_
                  refine lm_icmp_ne C (tgt := 216) dL_areRows_188 (by decide) rfl (fun c58 => ?_) (fun c58 => ?_)
                  · have hF := lm_brt hF c58
                    refine lm_iconst C (v := (0 : Int32)) dL_areRows_216 (by decide) rfl ?_
                    refine lm_istore C (lv' := [(0, .ref (m 0)), (1, .ref (b 0)), (2, .ref (b 1)), (3, .ref (b 2)), (4, .ref (b 3)), (5, .int (0 : Int32)), (6, .int x6), (7, .int x7), (8, .int (0 : Int32))]) dL_areRows_217 (by decide) rfl [1, 2, 3, 4, 5, 0, 6, 7, 8] rfl rfl ?_
                    refine lm_iinc C (lv' := [(0, .ref (m 0)), (1, .ref (b 0)), (2, .ref (b 1)), (3, .ref (b 2)), (4, .ref (b 3)), (5, .int (0 : Int32)), (6, .int x6), (7, .int (x7 + (1 : Int32))), (8, .int (0 : Int32))]) (x7 + (1 : Int32)) dL_areRows_219 7 rfl rfl (by decide) rfl [1, 2, 3, 4, 5, 6, 7, 0, 8] rfl rfl ?_
                    refine lm_goto C (tgt := 93) dL_areRows_222 (by decide) ?_
                    refine lm_lvsub (lv' := [(0, .ref (m 0)), (1, .ref (b 0)), (2, .ref (b 1)), (3, .ref (b 2)), (4, .ref (b 3)), (5, .int (0 : Int32)), (6, .int x6), (7, .int (x7 + (1 : Int32)))]) [0, 1, 2, 3, 4, 5, 6, 7] rfl ?_
                    exact ih hx (0 : Int32) x6 (x7 + (1 : Int32)) hF
                  · have hF := lm_brf hF c58
                    refine lm_aload_n C dL_areRows_191 rfl 0 rfl rfl ?_
                    refine lm_iconst C (v := (1 : Int32)) dL_areRows_192 (by decide) rfl ?_
                    refine lm_iload C dL_areRows_193 7 rfl rfl ?_
                    refine lm_iconst C (v := (2 : Int32)) dL_areRows_195 (by decide) rfl ?_
                    obtain ⟨r59, qr59, hF⟩ := lm_bde hF
                    refine lm_callVR C (n := 3) (ci := 6) (m_X6_row D z zo l m a hx (1 : Int32) x7 (2 : Int32) r59 qr59) gL_areRows_X6_row rfl (by decide +kernel) ⟨Nat.le_of_ble_eq_true rfl, Nat.le_of_ble_eq_true rfl⟩ ⟨Nat.le_of_ble_eq_true rfl, Nat.le_of_ble_eq_true rfl⟩ 0 rfl rfl (lw_sm z zo m a b hx) rfl rfl (Nat.le_of_ble_eq_true rfl) dL_areRows_196 (st' := [.int r59]) rfl rfl ?_
                    refine lm_iload C dL_areRows_199 8 rfl rfl ?_
                    refine lm_if_eq C (tgt := 208) dL_areRows_201 (by decide) rfl (fun c60 => ?_) (fun c60 => ?_)
                    · refine lm_iconst C (v := (0 : Int32)) dL_areRows_208 (by decide) rfl ?_
                      refine lm_icmp_ne C (tgt := 216) dL_areRows_209 (by decide) rfl (fun c61 => ?_) (fun c61 => ?_)
                      · have hF := lm_brt hF c61
                        refine lm_iconst C (v := (0 : Int32)) dL_areRows_216 (by decide) rfl ?_
                        refine lm_istore C (lv' := [(0, .ref (m 0)), (1, .ref (b 0)), (2, .ref (b 1)), (3, .ref (b 2)), (4, .ref (b 3)), (5, .int (0 : Int32)), (6, .int x6), (7, .int x7), (8, .int (0 : Int32))]) dL_areRows_217 (by decide) rfl [1, 2, 3, 4, 5, 0, 6, 7, 8] rfl rfl ?_
                        refine lm_iinc C (lv' := [(0, .ref (m 0)), (1, .ref (b 0)), (2, .ref (b 1)), (3, .ref (b 2)), (4, .ref (b 3)), (5, .int (0 : Int32)), (6, .int x6), (7, .int (x7 + (1 : Int32))), (8, .int (0 : Int32))]) (x7 + (1 : Int32)) dL_areRows_219 7 rfl rfl (by decide) rfl [1, 2, 3, 4, 5, 6, 7, 0, 8] rfl rfl ?_
                        refine lm_goto C (tgt := 93) dL_areRows_222 (by decide) ?_
                        refine lm_lvsub (lv' := [(0, .ref (m 0)), (1, .ref (b 0)), (2, .ref (b 1)), (3, .ref (b 2)), (4, .ref (b 3)), (5, .int (0 : Int32)), (6, .int x6), (7, .int (x7 + (1 : Int32)))]) [0, 1, 2, 3, 4, 5, 6, 7] rfl ?_
                        exact ih hx (0 : Int32) x6 (x7 + (1 : Int32)) hF
                      · have hF := lm_brf hF c61
                        refine lm_iconst C (v := (1 : Int32)) dL_areRows_212 (by decide) rfl ?_
                        refine lm_goto C (tgt := 217) dL_areRows_213 (by decide) ?_
                        refine lm_istore C (lv' := [(0, .ref (m 0)), (1, .ref (b 0)), (2, .ref (b 1)), (3, .ref (b 2)), (4, .ref (b 3)), (5, .int (1 : Int32)), (6, .int x6), (7, .int x7), (8, .int (0 : Int32))]) dL_areRows_217 (by decide) rfl [1, 2, 3, 4, 5, 0, 6, 7, 8] rfl rfl ?_
                        refine lm_iinc C (lv' := [(0, .ref (m 0)), (1, .ref (b 0)), (2, .ref (b 1)), (3, .ref (b 2)), (4, .ref (b 3)), (5, .int (1 : Int32)), (6, .int x6), (7, .int (x7 + (1 : Int32))), (8, .int (0 : Int32))]) (x7 + (1 : Int32)) dL_areRows_219 7 rfl rfl (by decide) rfl [1, 2, 3, 4, 5, 6, 7, 0, 8] rfl rfl ?_
                        refine lm_goto C (tgt := 93) dL_areRows_222 (by decide) ?_
                        refine lm_lvsub (lv' := [(0, .ref (m 0)), (1, .ref (b 0)), (2, .ref (b 1)), (3, .ref (b 2)), (4, .ref (b 3)), (5, .int (1 : Int32)), (6, .int x6), (7, .int (x7 + (1 : Int32)))]) [0, 1, 2, 3, 4, 5, 6, 7] rfl ?_
                        exact ih hx (1 : Int32) x6 (x7 + (1 : Int32)) hF
                    · exact absurd (by decide) c60
            · have hF := lm_brf hF c51
              refine lm_iconst C (v := (1 : Int32)) dL_areRows_143 (by decide) rfl ?_
              refine lm_goto C (tgt := 148) dL_areRows_144 (by decide) ?_
              refine lm_istore C (lv' := [(0, .ref (m 0)), (1, .ref (b 0)), (2, .ref (b 1)), (3, .ref (b 2)), (4, .ref (b 3)), (5, .int x5), (6, .int x6), (7, .int x7), (8, .int (1 : Int32))]) dL_areRows_148 (by decide) rfl [1, 2, 3, 4, 5, 6, 7, 8, 0] rfl rfl ?_
              refine lm_iload C dL_areRows_150 5 rfl rfl ?_
              refine lm_if_eq C (tgt := 216) dL_areRows_152 (by decide) rfl (fun c62 => ?_) (fun c62 => ?_)
              · have hF := lm_brt hF c62
                refine lm_iconst C (v := (0 : Int32)) dL_areRows_216 (by decide) rfl ?_
                refine lm_istore C (lv' := [(0, .ref (m 0)), (1, .ref (b 0)), (2, .ref (b 1)), (3, .ref (b 2)), (4, .ref (b 3)), (5, .int (0 : Int32)), (6, .int x6), (7, .int x7), (8, .int (1 : Int32))]) dL_areRows_217 (by decide) rfl [1, 2, 3, 4, 5, 0, 6, 7, 8] rfl rfl ?_
                refine lm_iinc C (lv' := [(0, .ref (m 0)), (1, .ref (b 0)), (2, .ref (b 1)), (3, .ref (b 2)), (4, .ref (b 3)), (5, .int (0 : Int32)), (6, .int x6), (7, .int (x7 + (1 : Int32))), (8, .int (1 : Int32))]) (x7 + (1 : Int32)) dL_areRows_219 7 rfl rfl (by decide) rfl [1, 2, 3, 4, 5, 6, 7, 0, 8] rfl rfl ?_
                refine lm_goto C (tgt := 93) dL_areRows_222 (by decide) ?_
                refine lm_lvsub (lv' := [(0, .ref (m 0)), (1, .ref (b 0)), (2, .ref (b 1)), (3, .ref (b 2)), (4, .ref (b 3)), (5, .int (0 : Int32)), (6, .int x6), (7, .int (x7 + (1 : Int32)))]) [0, 1, 2, 3, 4, 5, 6, 7] rfl ?_
                exact ih hx (0 : Int32) x6 (x7 + (1 : Int32)) hF
              · have hF := lm_brf hF c62
                refine lm_aload_n C dL_areRows_155 rfl 0 rfl rfl ?_
                refine lm_iconst C (v := (1 : Int32)) dL_areRows_156 (by decide) rfl ?_
                refine lm_iload C dL_areRows_157 7 rfl rfl ?_
                refine lm_iconst C (v := (0 : Int32)) dL_areRows_159 (by decide) rfl ?_
                obtain ⟨r63, qr63, hF⟩ := lm_bde hF
                refine lm_callVR C (n := 3) (ci := 6) (m_X6_row D z zo l m a hx (1 : Int32) x7 (0 : Int32) r63 qr63) gL_areRows_X6_row rfl (by decide +kernel) ⟨Nat.le_of_ble_eq_true rfl, Nat.le_of_ble_eq_true rfl⟩ ⟨Nat.le_of_ble_eq_true rfl, Nat.le_of_ble_eq_true rfl⟩ 0 rfl rfl (lw_sm z zo m a b hx) rfl rfl (Nat.le_of_ble_eq_true rfl) dL_areRows_160 (st' := [.int r63]) rfl rfl ?_
                refine lm_aload_n C dL_areRows_163 rfl 2 rfl rfl ?_
                refine lm_iconst C (v := (2 : Int32)) dL_areRows_164 (by decide) rfl ?_
                refine lm_iload C dL_areRows_165 7 rfl rfl ?_
                refine lm_imul C dL_areRows_167 rfl rfl ?_
                obtain ⟨b64, hF⟩ := lm_gie hF
                refine lm_iald C (v := (hx 9 1 (((2 : Int32) * x7)).toNatClampNeg)) 142 rfl b64 rfl dL_areRows_168 rfl ?_
                refine lm_icmp_ne C (tgt := 216) dL_areRows_169 (by decide) rfl (fun c65 => ?_) (fun c65 => ?_)
                · have hF := lm_brt hF c65
                  refine lm_iconst C (v := (0 : Int32)) dL_areRows_216 (by decide) rfl ?_
                  refine lm_istore C (lv' := [(0, .ref (m 0)), (1, .ref (b 0)), (2, .ref (b 1)), (3, .ref (b 2)), (4, .ref (b 3)), (5, .int (0 : Int32)), (6, .int x6), (7, .int x7), (8, .int (1 : Int32))]) dL_areRows_217 (by decide) rfl [1, 2, 3, 4, 5, 0, 6, 7, 8] rfl rfl ?_
                  refine lm_iinc C (lv' := [(0, .ref (m 0)), (1, .ref (b 0)), (2, .ref (b 1)), (3, .ref (b 2)), (4, .ref (b 3)), (5, .int (0 : Int32)), (6, .int x6), (7, .int (x7 + (1 : Int32))), (8, .int (1 : Int32))]) (x7 + (1 : Int32)) dL_areRows_219 7 rfl rfl (by decide) rfl [1, 2, 3, 4, 5, 6, 7, 0, 8] rfl rfl ?_
                  refine lm_goto C (tgt := 93) dL_areRows_222 (by decide) ?_
                  refine lm_lvsub (lv' := [(0, .ref (m 0)), (1, .ref (b 0)), (2, .ref (b 1)), (3, .ref (b 2)), (4, .ref (b 3)), (5, .int (0 : Int32)), (6, .int x6), (7, .int (x7 + (1 : Int32)))]) [0, 1, 2, 3, 4, 5, 6, 7] rfl ?_
                  exact ih hx (0 : Int32) x6 (x7 + (1 : Int32)) hF
                · have hF := lm_brf hF c65
                  refine lm_aload_n C dL_areRows_172 rfl 0 rfl rfl ?_
                  refine lm_iconst C (v := (1 : Int32)) dL_areRows_173 (by decide) rfl ?_
                  refine lm_iload C dL_areRows_174 7 rfl rfl ?_
                  refine lm_iconst C (v := (1 : Int32)) dL_areRows_176 (by decide) rfl ?_
                  obtain ⟨r66, qr66, hF⟩ := lm_bde hF
                  refine lm_callVR C (n := 3) (ci := 6) (m_X6_row D z zo l m a hx (1 : Int32) x7 (1 : Int32) r66 qr66) gL_areRows_X6_row rfl (by decide +kernel) ⟨Nat.le_of_ble_eq_true rfl, Nat.le_of_ble_eq_true rfl⟩ ⟨Nat.le_of_ble_eq_true rfl, Nat.le_of_ble_eq_true rfl⟩ 0 rfl rfl (lw_sm z zo m a b hx) rfl rfl (Nat.le_of_ble_eq_true rfl) dL_areRows_177 (st' := [.int r66]) rfl rfl ?_
                  refine lm_aload_n C dL_areRows_180 rfl 2 rfl rfl ?_
                  refine lm_iconst C (v := (2 : Int32)) dL_areRows_181 (by decide) rfl ?_
                  refine lm_iload C dL_areRows_182 7 rfl rfl ?_
                  refine lm_imul C dL_areRows_184 rfl rfl ?_
                  refine lm_iconst C (v := (1 : Int32)) dL_areRows_185 (by decide) rfl ?_
                  refine lm_iadd C dL_areRows_186 rfl rfl ?_
                  obtain ⟨b67, hF⟩ := lm_gie hF
                  refine lm_iald C (v := (hx 9 1 ((((2 : Int32) * x7) + (1 : Int32))).toNatClampNeg)) 142 rfl b67 rfl dL_areRows_187 rfl ?_
                  refine lm_icmp_ne C (tgt := 216) dL_areRows_188 (by decide) rfl (fun c68 => ?_) (fun c68 => ?_)
                  · have hF := lm_brt hF c68
                    refine lm_iconst C (v := (0 : Int32)) dL_areRows_216 (by decide) rfl ?_
                    refine lm_istore C (lv' := [(0, .ref (m 0)), (1, .ref (b 0)), (2, .ref (b 1)), (3, .ref (b 2)), (4, .ref (b 3)), (5, .int (0 : Int32)), (6, .int x6), (7, .int x7), (8, .int (1 : Int32))]) dL_areRows_217 (by decide) rfl [1, 2, 3, 4, 5, 0, 6, 7, 8] rfl rfl ?_
                    refine lm_iinc C (lv' := [(0, .ref (m 0)), (1, .ref (b 0)), (2, .ref (b 1)), (3, .ref (b 2)), (4, .ref (b 3)), (5, .int (0 : Int32)), (6, .int x6), (7, .int (x7 + (1 : Int32))), (8, .int (1 : Int32))]) (x7 + (1 : Int32)) dL_areRows_219 7 rfl rfl (by decide) rfl [1, 2, 3, 4, 5, 6, 7, 0, 8] rfl rfl ?_
                    refine lm_goto C (tgt := 93) dL_areRows_222 (by decide) ?_
                    refine lm_lvsub (lv' := [(0, .ref (m 0)), (1, .ref (b 0)), (2, .ref (b 1)), (3, .ref (b 2)), (4, .ref (b 3)), (5, .int (0 : Int32)), (6, .int x6), (7, .int (x7 + (1 : Int32)))]) [0, 1, 2, 3, 4, 5, 6, 7] rfl ?_
                    exact ih hx (0 : Int32) x6 (x7 + (1 : Int32)) hF
                  · have hF := lm_brf hF c68
                    refine lm_aload_n C dL_areRows_191 rfl 0 rfl rfl ?_
                    refine lm_iconst C (v := (1 : Int32)) dL_areRows_192 (by decide) rfl ?_
                    refine lm_iload C dL_areRows_193 7 rfl rfl ?_
                    refine lm_iconst C (v := (2 : Int32)) dL_areRows_195 (by decide) rfl ?_
                    obtain ⟨r69, qr69, hF⟩ := lm_bde hF
                    refine lm_callVR C (n := 3) (ci := 6) (m_X6_row D z zo l m a hx (1 : Int32) x7 (2 : Int32) r69 qr69) gL_areRows_X6_row rfl (by decide +kernel) ⟨Nat.le_of_ble_eq_true rfl, Nat.le_of_ble_eq_true rfl⟩ ⟨Nat.le_of_ble_eq_true rfl, Nat.le_of_ble_eq_true rfl⟩ 0 rfl rfl (lw_sm z zo m a b hx) rfl rfl (Nat.le_of_ble_eq_true rfl) dL_areRows_196 (st' := [.int r69]) rfl rfl ?_
                    refine lm_iload C dL_areRows_199 8 rfl rfl ?_
                    refine lm_if_eq C (tgt := 208) dL_areRows_201 (by decide) rfl (fun c70 => ?_) (fun c70 => ?_)
                    · exact absurd c70 (by decide)
                    · refine lm_iconst C (v := (1 : Int32)) dL_areRows_204 (by decide) rfl ?_
                      refine lm_goto C (tgt := 209) dL_areRows_205 (by decide) ?_
                      refine lm_icmp_ne C (tgt := 216) dL_areRows_209 (by decide) rfl (fun c71 => ?_) (fun c71 => ?_)
                      · have hF := lm_brt hF c71
                        refine lm_iconst C (v := (0 : Int32)) dL_areRows_216 (by decide) rfl ?_
                        refine lm_istore C (lv' := [(0, .ref (m 0)), (1, .ref (b 0)), (2, .ref (b 1)), (3, .ref (b 2)), (4, .ref (b 3)), (5, .int (0 : Int32)), (6, .int x6), (7, .int x7), (8, .int (1 : Int32))]) dL_areRows_217 (by decide) rfl [1, 2, 3, 4, 5, 0, 6, 7, 8] rfl rfl ?_
                        refine lm_iinc C (lv' := [(0, .ref (m 0)), (1, .ref (b 0)), (2, .ref (b 1)), (3, .ref (b 2)), (4, .ref (b 3)), (5, .int (0 : Int32)), (6, .int x6), (7, .int (x7 + (1 : Int32))), (8, .int (1 : Int32))]) (x7 + (1 : Int32)) dL_areRows_219 7 rfl rfl (by decide) rfl [1, 2, 3, 4, 5, 6, 7, 0, 8] rfl rfl ?_
                        refine lm_goto C (tgt := 93) dL_areRows_222 (by decide) ?_
                        refine lm_lvsub (lv' := [(0, .ref (m 0)), (1, .ref (b 0)), (2, .ref (b 1)), (3, .ref (b 2)), (4, .ref (b 3)), (5, .int (0 : Int32)), (6, .int x6), (7, .int (x7 + (1 : Int32)))]) [0, 1, 2, 3, 4, 5, 6, 7] rfl ?_
                        exact ih hx (0 : Int32) x6 (x7 + (1 : Int32)) hF
                      · have hF := lm_brf hF c71
                        refine lm_iconst C (v := (1 : Int32)) dL_areRows_212 (by decide) rfl ?_
                        refine lm_goto C (tgt := 217) dL_areRows_213 (by decide) ?_
                        refine lm_istore C (lv' := [(0, .ref (m 0)), (1, .ref (b 0)), (2, .ref (b 1)), (3, .ref (b 2)), (4, .ref (b 3)), (5, .int (1 : Int32)), (6, .int x6), (7, .int x7), (8, .int (1 : Int32))]) dL_areRows_217 (by decide) rfl [1, 2, 3, 4, 5, 0, 6, 7, 8] rfl rfl ?_
                        refine lm_iinc C (lv' := [(0, .ref (m 0)), (1, .ref (b 0)), (2, .ref (b 1)), (3, .ref (b 2)), (4, .ref (b 3)), (5, .int (1 : Int32)), (6, .int x6), (7, .int (x7 + (1 : Int32))), (8, .int (1 : Int32))]) (x7 + (1 : Int32)) dL_areRows_219 7 rfl rfl (by decide) rfl [1, 2, 3, 4, 5, 6, 7, 0, 8] rfl rfl ?_
                        refine lm_goto C (tgt := 93) dL_areRows_222 (by decide) ?_
                        refine lm_lvsub (lv' := [(0, .ref (m 0)), (1, .ref (b 0)), (2, .ref (b 1)), (3, .ref (b 2)), (4, .ref (b 3)), (5, .int (1 : Int32)), (6, .int x6), (7, .int (x7 + (1 : Int32)))]) [0, 1, 2, 3, 4, 5, 6, 7] rfl ?_
                        exact ih hx (1 : Int32) x6 (x7 + (1 : Int32)) hF
  show lm_St p l e ({ frames := 3, cells := 0, slots := 0, locals := 68 }) s m_ args below meth c D (fun _ => False) 9 0 0 (lm_EndR below (some (.int r)) args s) true (lwMW z zo m a b h) 0 [(0, .ref (m 0)), (1, .ref (b 0)), (2, .ref (b 1)), (3, .ref (b 2)), (4, .ref (b 3))] []
  rw [F_L_areRows] at hF
  refine lm_aload_n C dL_areRows_0 rfl 0 rfl rfl ?_
  refine lm_iconst C (v := (1 : Int32)) dL_areRows_1 (by decide) rfl ?_
  refine lm_aload_n C dL_areRows_2 rfl 1 rfl rfl ?_
  refine lm_iconst C (v := (5 : Int32)) dL_areRows_3 (by decide) rfl ?_
  refine lm_iald C (v := (h 9 0 5)) 141 rfl (by unfold vp_in; decide) rfl dL_areRows_4 rfl ?_
  refine lm_iconst C (v := (0 : Int32)) dL_areRows_5 (by decide) rfl ?_
  obtain ⟨r1, qr1, hF⟩ := lm_bde hF
  refine lm_callVR C (n := 3) (ci := 6) (m_X6_row D z zo l m a h (1 : Int32) (h 9 0 5) (0 : Int32) r1 qr1) gL_areRows_X6_row rfl (by decide +kernel) ⟨Nat.le_of_ble_eq_true rfl, Nat.le_of_ble_eq_true rfl⟩ ⟨Nat.le_of_ble_eq_true rfl, Nat.le_of_ble_eq_true rfl⟩ 0 rfl rfl (lw_sm z zo m a b h) rfl rfl (Nat.le_of_ble_eq_true rfl) dL_areRows_6 (st' := [.int r1]) rfl rfl ?_
  refine lm_iconst C (v := (-1 : Int32)) dL_areRows_9 (by decide) rfl ?_
  refine lm_icmp_ne C (tgt := 84) dL_areRows_10 (by decide) rfl (fun c2 => ?_) (fun c2 => ?_)
  · have hF := lm_brt hF c2
    refine lm_iconst C (v := (0 : Int32)) dL_areRows_84 (by decide) rfl ?_
    refine lm_istore C (lv' := [(0, .ref (m 0)), (1, .ref (b 0)), (2, .ref (b 1)), (3, .ref (b 2)), (4, .ref (b 3)), (5, .int (0 : Int32))]) dL_areRows_85 (by decide) rfl [1, 2, 3, 4, 5, 0] rfl rfl ?_
    refine lm_iconst C (v := (0 : Int32)) dL_areRows_87 (by decide) rfl ?_
    refine lm_istore C (lv' := [(0, .ref (m 0)), (1, .ref (b 0)), (2, .ref (b 1)), (3, .ref (b 2)), (4, .ref (b 3)), (5, .int (0 : Int32)), (6, .int (0 : Int32))]) dL_areRows_88 (by decide) rfl [1, 2, 3, 4, 5, 6, 0] rfl rfl ?_
    refine lm_iconst C (v := (0 : Int32)) dL_areRows_90 (by decide) rfl ?_
    refine lm_istore C (lv' := [(0, .ref (m 0)), (1, .ref (b 0)), (2, .ref (b 1)), (3, .ref (b 2)), (4, .ref (b 3)), (5, .int (0 : Int32)), (6, .int (0 : Int32)), (7, .int (0 : Int32))]) dL_areRows_91 (by decide) rfl [1, 2, 3, 4, 5, 6, 7, 0] rfl rfl ?_
    exact loop_93 1000 h (0 : Int32) (0 : Int32) (0 : Int32) hF
  · have hF := lm_brf hF c2
    refine lm_aload_n C dL_areRows_13 rfl 0 rfl rfl ?_
    refine lm_iconst C (v := (0 : Int32)) dL_areRows_14 (by decide) rfl ?_
    refine lm_aload_n C dL_areRows_15 rfl 1 rfl rfl ?_
    refine lm_bipush C (v := (6 : Int32)) dL_areRows_16 (by decide) rfl ?_
    refine lm_iald C (v := (h 9 0 6)) 141 rfl (by unfold vp_in; decide) rfl dL_areRows_18 rfl ?_
    refine lm_iconst C (v := (0 : Int32)) dL_areRows_19 (by decide) rfl ?_
    obtain ⟨r72, qr72, hF⟩ := lm_bde hF
    refine lm_callVR C (n := 3) (ci := 6) (m_X6_row D z zo l m a h (0 : Int32) (h 9 0 6) (0 : Int32) r72 qr72) gL_areRows_X6_row rfl (by decide +kernel) ⟨Nat.le_of_ble_eq_true rfl, Nat.le_of_ble_eq_true rfl⟩ ⟨Nat.le_of_ble_eq_true rfl, Nat.le_of_ble_eq_true rfl⟩ 0 rfl rfl (lw_sm z zo m a b h) rfl rfl (Nat.le_of_ble_eq_true rfl) dL_areRows_20 (st' := [.int r72]) rfl rfl ?_
    refine lm_iconst C (v := (-1 : Int32)) dL_areRows_23 (by decide) rfl ?_
    refine lm_icmp_ne C (tgt := 84) dL_areRows_24 (by decide) rfl (fun c73 => ?_) (fun c73 => ?_)
    · have hF := lm_brt hF c73
      refine lm_iconst C (v := (0 : Int32)) dL_areRows_84 (by decide) rfl ?_
      refine lm_istore C (lv' := [(0, .ref (m 0)), (1, .ref (b 0)), (2, .ref (b 1)), (3, .ref (b 2)), (4, .ref (b 3)), (5, .int (0 : Int32))]) dL_areRows_85 (by decide) rfl [1, 2, 3, 4, 5, 0] rfl rfl ?_
      refine lm_iconst C (v := (0 : Int32)) dL_areRows_87 (by decide) rfl ?_
      refine lm_istore C (lv' := [(0, .ref (m 0)), (1, .ref (b 0)), (2, .ref (b 1)), (3, .ref (b 2)), (4, .ref (b 3)), (5, .int (0 : Int32)), (6, .int (0 : Int32))]) dL_areRows_88 (by decide) rfl [1, 2, 3, 4, 5, 6, 0] rfl rfl ?_
      refine lm_iconst C (v := (0 : Int32)) dL_areRows_90 (by decide) rfl ?_
      refine lm_istore C (lv' := [(0, .ref (m 0)), (1, .ref (b 0)), (2, .ref (b 1)), (3, .ref (b 2)), (4, .ref (b 3)), (5, .int (0 : Int32)), (6, .int (0 : Int32)), (7, .int (0 : Int32))]) dL_areRows_91 (by decide) rfl [1, 2, 3, 4, 5, 6, 7, 0] rfl rfl ?_
      exact loop_93 1000 h (0 : Int32) (0 : Int32) (0 : Int32) hF
    · have hF := lm_brf hF c73
      refine lm_aload_n C dL_areRows_27 rfl 0 rfl rfl ?_
      refine lm_iconst C (v := (1 : Int32)) dL_areRows_28 (by decide) rfl ?_
      refine lm_iconst C (v := (-1 : Int32)) dL_areRows_29 (by decide) rfl ?_
      refine lm_iconst C (v := (0 : Int32)) dL_areRows_30 (by decide) rfl ?_
      obtain ⟨r74, qr74, hF⟩ := lm_bde hF
      refine lm_callVR C (n := 3) (ci := 6) (m_X6_row D z zo l m a h (1 : Int32) (-1 : Int32) (0 : Int32) r74 qr74) gL_areRows_X6_row rfl (by decide +kernel) ⟨Nat.le_of_ble_eq_true rfl, Nat.le_of_ble_eq_true rfl⟩ ⟨Nat.le_of_ble_eq_true rfl, Nat.le_of_ble_eq_true rfl⟩ 0 rfl rfl (lw_sm z zo m a b h) rfl rfl (Nat.le_of_ble_eq_true rfl) dL_areRows_31 (st' := [.int r74]) rfl rfl ?_
      refine lm_iconst C (v := (-1 : Int32)) dL_areRows_34 (by decide) rfl ?_
      refine lm_icmp_ne C (tgt := 84) dL_areRows_35 (by decide) rfl (fun c75 => ?_) (fun c75 => ?_)
      · have hF := lm_brt hF c75
        refine lm_iconst C (v := (0 : Int32)) dL_areRows_84 (by decide) rfl ?_
        refine lm_istore C (lv' := [(0, .ref (m 0)), (1, .ref (b 0)), (2, .ref (b 1)), (3, .ref (b 2)), (4, .ref (b 3)), (5, .int (0 : Int32))]) dL_areRows_85 (by decide) rfl [1, 2, 3, 4, 5, 0] rfl rfl ?_
        refine lm_iconst C (v := (0 : Int32)) dL_areRows_87 (by decide) rfl ?_
        refine lm_istore C (lv' := [(0, .ref (m 0)), (1, .ref (b 0)), (2, .ref (b 1)), (3, .ref (b 2)), (4, .ref (b 3)), (5, .int (0 : Int32)), (6, .int (0 : Int32))]) dL_areRows_88 (by decide) rfl [1, 2, 3, 4, 5, 6, 0] rfl rfl ?_
        refine lm_iconst C (v := (0 : Int32)) dL_areRows_90 (by decide) rfl ?_
        refine lm_istore C (lv' := [(0, .ref (m 0)), (1, .ref (b 0)), (2, .ref (b 1)), (3, .ref (b 2)), (4, .ref (b 3)), (5, .int (0 : Int32)), (6, .int (0 : Int32)), (7, .int (0 : Int32))]) dL_areRows_91 (by decide) rfl [1, 2, 3, 4, 5, 6, 7, 0] rfl rfl ?_
        exact loop_93 1000 h (0 : Int32) (0 : Int32) (0 : Int32) hF
      · have hF := lm_brf hF c75
        refine lm_aload_n C dL_areRows_38 rfl 0 rfl rfl ?_
        refine lm_bipush C (v := (10 : Int32)) dL_areRows_39 (by decide) rfl ?_
        refine lm_iconst C (v := (0 : Int32)) dL_areRows_41 (by decide) rfl ?_
        obtain ⟨r76, qr76, hF⟩ := lm_bde hF
        refine lm_callVR C (n := 2) (ci := 6) (m_X6_answer D z zo l m a h (10 : Int32) (0 : Int32) r76 qr76) gL_areRows_X6_answer rfl (by decide +kernel) ⟨Nat.le_of_ble_eq_true rfl, Nat.le_of_ble_eq_true rfl⟩ ⟨Nat.le_of_ble_eq_true rfl, Nat.le_of_ble_eq_true rfl⟩ 0 rfl rfl (lw_sm z zo m a b h) rfl rfl (Nat.le_of_ble_eq_true rfl) dL_areRows_42 (st' := [.int r76]) rfl rfl ?_
        refine lm_iconst C (v := (-1 : Int32)) dL_areRows_45 (by decide) rfl ?_
        refine lm_icmp_ne C (tgt := 84) dL_areRows_46 (by decide) rfl (fun c77 => ?_) (fun c77 => ?_)
        · have hF := lm_brt hF c77
          refine lm_iconst C (v := (0 : Int32)) dL_areRows_84 (by decide) rfl ?_
          refine lm_istore C (lv' := [(0, .ref (m 0)), (1, .ref (b 0)), (2, .ref (b 1)), (3, .ref (b 2)), (4, .ref (b 3)), (5, .int (0 : Int32))]) dL_areRows_85 (by decide) rfl [1, 2, 3, 4, 5, 0] rfl rfl ?_
          refine lm_iconst C (v := (0 : Int32)) dL_areRows_87 (by decide) rfl ?_
          refine lm_istore C (lv' := [(0, .ref (m 0)), (1, .ref (b 0)), (2, .ref (b 1)), (3, .ref (b 2)), (4, .ref (b 3)), (5, .int (0 : Int32)), (6, .int (0 : Int32))]) dL_areRows_88 (by decide) rfl [1, 2, 3, 4, 5, 6, 0] rfl rfl ?_
          refine lm_iconst C (v := (0 : Int32)) dL_areRows_90 (by decide) rfl ?_
          refine lm_istore C (lv' := [(0, .ref (m 0)), (1, .ref (b 0)), (2, .ref (b 1)), (3, .ref (b 2)), (4, .ref (b 3)), (5, .int (0 : Int32)), (6, .int (0 : Int32)), (7, .int (0 : Int32))]) dL_areRows_91 (by decide) rfl [1, 2, 3, 4, 5, 6, 7, 0] rfl rfl ?_
          exact loop_93 1000 h (0 : Int32) (0 : Int32) (0 : Int32) hF
        · have hF := lm_brf hF c77
          refine lm_aload_n C dL_areRows_49 rfl 0 rfl rfl ?_
          refine lm_iconst C (v := (0 : Int32)) dL_areRows_50 (by decide) rfl ?_
          refine lm_iconst C (v := (4 : Int32)) dL_areRows_51 (by decide) rfl ?_
          obtain ⟨r78, qr78, hF⟩ := lm_bde hF
          refine lm_callVR C (n := 2) (ci := 6) (m_X6_answer D z zo l m a h (0 : Int32) (4 : Int32) r78 qr78) gL_areRows_X6_answer rfl (by decide +kernel) ⟨Nat.le_of_ble_eq_true rfl, Nat.le_of_ble_eq_true rfl⟩ ⟨Nat.le_of_ble_eq_true rfl, Nat.le_of_ble_eq_true rfl⟩ 0 rfl rfl (lw_sm z zo m a b h) rfl rfl (Nat.le_of_ble_eq_true rfl) dL_areRows_52 (st' := [.int r78]) rfl rfl ?_
          refine lm_iconst C (v := (-1 : Int32)) dL_areRows_55 (by decide) rfl ?_
          refine lm_icmp_ne C (tgt := 84) dL_areRows_56 (by decide) rfl (fun c79 => ?_) (fun c79 => ?_)
          · have hF := lm_brt hF c79
            refine lm_iconst C (v := (0 : Int32)) dL_areRows_84 (by decide) rfl ?_
            refine lm_istore C (lv' := [(0, .ref (m 0)), (1, .ref (b 0)), (2, .ref (b 1)), (3, .ref (b 2)), (4, .ref (b 3)), (5, .int (0 : Int32))]) dL_areRows_85 (by decide) rfl [1, 2, 3, 4, 5, 0] rfl rfl ?_
            refine lm_iconst C (v := (0 : Int32)) dL_areRows_87 (by decide) rfl ?_
            refine lm_istore C (lv' := [(0, .ref (m 0)), (1, .ref (b 0)), (2, .ref (b 1)), (3, .ref (b 2)), (4, .ref (b 3)), (5, .int (0 : Int32)), (6, .int (0 : Int32))]) dL_areRows_88 (by decide) rfl [1, 2, 3, 4, 5, 6, 0] rfl rfl ?_
            refine lm_iconst C (v := (0 : Int32)) dL_areRows_90 (by decide) rfl ?_
            refine lm_istore C (lv' := [(0, .ref (m 0)), (1, .ref (b 0)), (2, .ref (b 1)), (3, .ref (b 2)), (4, .ref (b 3)), (5, .int (0 : Int32)), (6, .int (0 : Int32)), (7, .int (0 : Int32))]) dL_areRows_91 (by decide) rfl [1, 2, 3, 4, 5, 6, 7, 0] rfl rfl ?_
            exact loop_93 1000 h (0 : Int32) (0 : Int32) (0 : Int32) hF
          · have hF := lm_brf hF c79
            refine lm_aload_n C dL_areRows_59 rfl 0 rfl rfl ?_
            refine lm_iconst C (v := (0 : Int32)) dL_areRows_60 (by decide) rfl ?_
            refine lm_bipush C (v := (6 : Int32)) dL_areRows_61 (by decide) rfl ?_
            obtain ⟨r80, qr80, hF⟩ := lm_bde hF
            refine lm_callVR C (n := 2) (ci := 6) (m_X6_remembered D z zo l m a h (0 : Int32) (6 : Int32) r80 qr80) gL_areRows_X6_remembered rfl (by decide +kernel) ⟨Nat.le_of_ble_eq_true rfl, Nat.le_of_ble_eq_true rfl⟩ ⟨Nat.le_of_ble_eq_true rfl, Nat.le_of_ble_eq_true rfl⟩ 0 rfl rfl (lw_sm z zo m a b h) rfl rfl (Nat.le_of_ble_eq_true rfl) dL_areRows_63 (st' := [.int r80]) rfl rfl ?_
            refine lm_iconst C (v := (-1 : Int32)) dL_areRows_66 (by decide) rfl ?_
            refine lm_icmp_ne C (tgt := 84) dL_areRows_67 (by decide) rfl (fun c81 => ?_) (fun c81 => ?_)
            · have hF := lm_brt hF c81
              refine lm_iconst C (v := (0 : Int32)) dL_areRows_84 (by decide) rfl ?_
              refine lm_istore C (lv' := [(0, .ref (m 0)), (1, .ref (b 0)), (2, .ref (b 1)), (3, .ref (b 2)), (4, .ref (b 3)), (5, .int (0 : Int32))]) dL_areRows_85 (by decide) rfl [1, 2, 3, 4, 5, 0] rfl rfl ?_
              refine lm_iconst C (v := (0 : Int32)) dL_areRows_87 (by decide) rfl ?_
              refine lm_istore C (lv' := [(0, .ref (m 0)), (1, .ref (b 0)), (2, .ref (b 1)), (3, .ref (b 2)), (4, .ref (b 3)), (5, .int (0 : Int32)), (6, .int (0 : Int32))]) dL_areRows_88 (by decide) rfl [1, 2, 3, 4, 5, 6, 0] rfl rfl ?_
              refine lm_iconst C (v := (0 : Int32)) dL_areRows_90 (by decide) rfl ?_
              refine lm_istore C (lv' := [(0, .ref (m 0)), (1, .ref (b 0)), (2, .ref (b 1)), (3, .ref (b 2)), (4, .ref (b 3)), (5, .int (0 : Int32)), (6, .int (0 : Int32)), (7, .int (0 : Int32))]) dL_areRows_91 (by decide) rfl [1, 2, 3, 4, 5, 6, 7, 0] rfl rfl ?_
              exact loop_93 1000 h (0 : Int32) (0 : Int32) (0 : Int32) hF
            · have hF := lm_brf hF c81
              refine lm_aload_n C dL_areRows_70 rfl 0 rfl rfl ?_
              refine lm_iconst C (v := (-1 : Int32)) dL_areRows_71 (by decide) rfl ?_
              refine lm_iconst C (v := (0 : Int32)) dL_areRows_72 (by decide) rfl ?_
              obtain ⟨r82, qr82, hF⟩ := lm_bde hF
              refine lm_callVR C (n := 2) (ci := 6) (m_X6_remembered D z zo l m a h (-1 : Int32) (0 : Int32) r82 qr82) gL_areRows_X6_remembered rfl (by decide +kernel) ⟨Nat.le_of_ble_eq_true rfl, Nat.le_of_ble_eq_true rfl⟩ ⟨Nat.le_of_ble_eq_true rfl, Nat.le_of_ble_eq_true rfl⟩ 0 rfl rfl (lw_sm z zo m a b h) rfl rfl (Nat.le_of_ble_eq_true rfl) dL_areRows_73 (st' := [.int r82]) rfl rfl ?_
              refine lm_iconst C (v := (-1 : Int32)) dL_areRows_76 (by decide) rfl ?_
              refine lm_icmp_ne C (tgt := 84) dL_areRows_77 (by decide) rfl (fun c83 => ?_) (fun c83 => ?_)
              · have hF := lm_brt hF c83
                refine lm_iconst C (v := (0 : Int32)) dL_areRows_84 (by decide) rfl ?_
                refine lm_istore C (lv' := [(0, .ref (m 0)), (1, .ref (b 0)), (2, .ref (b 1)), (3, .ref (b 2)), (4, .ref (b 3)), (5, .int (0 : Int32))]) dL_areRows_85 (by decide) rfl [1, 2, 3, 4, 5, 0] rfl rfl ?_
                refine lm_iconst C (v := (0 : Int32)) dL_areRows_87 (by decide) rfl ?_
                refine lm_istore C (lv' := [(0, .ref (m 0)), (1, .ref (b 0)), (2, .ref (b 1)), (3, .ref (b 2)), (4, .ref (b 3)), (5, .int (0 : Int32)), (6, .int (0 : Int32))]) dL_areRows_88 (by decide) rfl [1, 2, 3, 4, 5, 6, 0] rfl rfl ?_
                refine lm_iconst C (v := (0 : Int32)) dL_areRows_90 (by decide) rfl ?_
                refine lm_istore C (lv' := [(0, .ref (m 0)), (1, .ref (b 0)), (2, .ref (b 1)), (3, .ref (b 2)), (4, .ref (b 3)), (5, .int (0 : Int32)), (6, .int (0 : Int32)), (7, .int (0 : Int32))]) dL_areRows_91 (by decide) rfl [1, 2, 3, 4, 5, 6, 7, 0] rfl rfl ?_
                exact loop_93 1000 h (0 : Int32) (0 : Int32) (0 : Int32) hF
              · have hF := lm_brf hF c83
                refine lm_iconst C (v := (1 : Int32)) dL_areRows_80 (by decide) rfl ?_
                refine lm_goto C (tgt := 85) dL_areRows_81 (by decide) ?_
                refine lm_istore C (lv' := [(0, .ref (m 0)), (1, .ref (b 0)), (2, .ref (b 1)), (3, .ref (b 2)), (4, .ref (b 3)), (5, .int (1 : Int32))]) dL_areRows_85 (by decide) rfl [1, 2, 3, 4, 5, 0] rfl rfl ?_
                refine lm_iconst C (v := (0 : Int32)) dL_areRows_87 (by decide) rfl ?_
                refine lm_istore C (lv' := [(0, .ref (m 0)), (1, .ref (b 0)), (2, .ref (b 1)), (3, .ref (b 2)), (4, .ref (b 3)), (5, .int (1 : Int32)), (6, .int (0 : Int32))]) dL_areRows_88 (by decide) rfl [1, 2, 3, 4, 5, 6, 0] rfl rfl ?_
                refine lm_iconst C (v := (0 : Int32)) dL_areRows_90 (by decide) rfl ?_
                refine lm_istore C (lv' := [(0, .ref (m 0)), (1, .ref (b 0)), (2, .ref (b 1)), (3, .ref (b 2)), (4, .ref (b 3)), (5, .int (1 : Int32)), (6, .int (0 : Int32)), (7, .int (0 : Int32))]) dL_areRows_91 (by decide) rfl [1, 2, 3, 4, 5, 6, 7, 0] rfl rfl ?_
                exact loop_93 1000 h (1 : Int32) (0 : Int32) (0 : Int32) hF
