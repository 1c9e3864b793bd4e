section LW2
variable {p : Program} {l : Launch} {e : Env} {s : State} {m : MethodId} {below : List Frame} {meth : Method} {c : Code} {D : va_G} {z zo : ClassId} {b L i : Nat} {xs : Nat → Int32} {d0 : Drawn} {Q : State → Prop} {mm am : Nat → Nat} {aa : Nat → Nat → Nat} {h h' : Nat → Hp} {μ μ' : Hp} {r : Int32}
set_option maxRecDepth 100000 in
set_option maxHeartbeats 4000000 in
theorem law_fault (C : law_Cx p s m b c D z zo d0) (hA : lm_AZ (fun q : Nat => s.heap.size ≤ q) (s.setDrawn d0)) (hX : va_X b L xs s s.heap) (hbl : b < s.heap.size) (hL : L ≤ 2048) (hi : i + 4 ≤ L) (F6 : F_X6_fault h (xs (i + 1)) = some (r, h')) (F7 : F_X7_fault μ (xs (i + 1)) = some (r, μ')) (K : law_St p l e s m b below meth c D Q d0 (mdW z am μ' ++ lmW z zo mm aa h') 835 (law_lv mm am b i) []) : law_St p l e s m b below meth c D Q d0 (mdW z am μ ++ lmW z zo mm aa h) 417 (law_lv mm am b i) [] := by
  refine lm_aload_n C dL_law_417 rfl 2 rfl rfl ?_
  refine lm_aload_n C dL_law_418 rfl 3 rfl rfl ?_
  refine lm_iload_n C dL_law_419 rfl 0 rfl rfl ?_
  refine lm_iconst C (v := (1 : Int32)) dL_law_420 (by decide) rfl ?_
  refine lm_iadd C (v := nI (i + 1)) dL_law_421 (nI_add i 1) rfl ?_
  refine lm_sld C (v := xs (i + 1)) hX hbl (Nat.not_le.mpr hbl) (vp_in_nI (by omega) (by omega)) (by rw [nI_clamp (by omega)]) dL_law_422 rfl ?_
  refine lm_callV C (n := 1) (ci := 6) (w' := mdW z am μ ++ lmW z zo mm aa h') hA (m_X6_fault D z zo l mm aa h ((xs (i + 1))) r h' F6) gL_law_X6_fault rfl (by decide +kernel) ⟨Nat.le_of_ble_eq_true rfl, Nat.le_of_ble_eq_true rfl⟩ ⟨Nat.le_of_ble_eq_true rfl, Nat.le_of_ble_eq_true rfl⟩ 8 rfl rfl List.perm_append_comm List.perm_append_comm rfl rfl (Nat.le_of_ble_eq_true rfl) dL_law_423 (st' := [.int r]) rfl rfl ?_
  refine lm_aload_n C dL_law_426 rfl 1 rfl rfl ?_
  refine lm_aload_n C dL_law_427 rfl 3 rfl rfl ?_
  refine lm_iload_n C dL_law_428 rfl 0 rfl rfl ?_
  refine lm_iconst C (v := (1 : Int32)) dL_law_429 (by decide) rfl ?_
  refine lm_iadd C (v := nI (i + 1)) dL_law_430 (nI_add i 1) rfl ?_
  refine lm_sld C (v := xs (i + 1)) hX hbl (Nat.not_le.mpr hbl) (vp_in_nI (by omega) (by omega)) (by rw [nI_clamp (by omega)]) dL_law_431 rfl ?_
  refine lm_callV C (n := 1) (ci := 7) (w' := mdW z am μ' ++ lmW z zo mm aa h') hA (m_X7_fault D z zo l am μ ((xs (i + 1))) r μ' F7) gL_law_X7_fault rfl (by decide +kernel) ⟨Nat.le_of_ble_eq_true rfl, Nat.le_of_ble_eq_true rfl⟩ ⟨Nat.le_of_ble_eq_true rfl, Nat.le_of_ble_eq_true rfl⟩ 0 rfl rfl (List.Perm.refl _) (List.Perm.refl _) rfl rfl (Nat.le_of_ble_eq_true rfl) dL_law_432 (st' := [.int r, .int r]) rfl rfl ?_
  refine lm_icmp_eq C (tgt := 835) dL_law_435 (by decide) rfl (fun _ => ?_) (fun c9 => absurd rfl c9)
  exact K
set_option maxRecDepth 100000 in
set_option maxHeartbeats 4000000 in
theorem law_fill (C : law_Cx p s m b c D z zo d0) (hA : lm_AZ (fun q : Nat => s.heap.size ≤ q) (s.setDrawn d0)) (hX : va_X b L xs s s.heap) (hbl : b < s.heap.size) (hL : L ≤ 2048) (hi : i + 4 ≤ L) (F6 : F_X6_fill h (lw_b (xs (i + 1))) = some (r, h')) (F7 : F_X7_fill μ (lw_b (xs (i + 1))) = some (r, μ')) (K : law_St p l e s m b below meth c D Q d0 (mdW z am μ' ++ lmW z zo mm aa h') 835 (law_lv mm am b i) []) : law_St p l e s m b below meth c D Q d0 (mdW z am μ ++ lmW z zo mm aa h) 440 (law_lv mm am b i) [] := by
  refine lm_aload_n C dL_law_440 rfl 2 rfl rfl ?_
  refine lm_aload_n C dL_law_441 rfl 3 rfl rfl ?_
  refine lm_iload_n C dL_law_442 rfl 0 rfl rfl ?_
  refine lm_iconst C (v := (1 : Int32)) dL_law_443 (by decide) rfl ?_
  refine lm_iadd C (v := nI (i + 1)) dL_law_444 (nI_add i 1) rfl ?_
  refine lm_sld C (v := xs (i + 1)) hX hbl (Nat.not_le.mpr hbl) (vp_in_nI (by omega) (by omega)) (by rw [nI_clamp (by omega)]) dL_law_445 rfl ?_
  refine lm_if_eq C (tgt := 453) dL_law_446 (by decide) rfl (fun c1 => ?_) (fun c1 => ?_)
  · have e1 : lw_b (xs (i + 1)) = 0 := if_pos c1
    rw [e1] at F6 F7
    refine lm_iconst C (v := (0 : Int32)) dL_law_453 (by decide) rfl ?_
    refine lm_callV C (n := 1) (ci := 6) (w' := mdW z am μ ++ lmW z zo mm aa h') hA (m_X6_fill D z zo l mm aa h (0) r h' F6) gL_law_X6_fill rfl (by decide +kernel) ⟨Nat.le_of_ble_eq_true rfl, Nat.le_of_ble_eq_true rfl⟩ ⟨Nat.le_of_ble_eq_true rfl, Nat.le_of_ble_eq_true rfl⟩ 8 rfl rfl List.perm_append_comm List.perm_append_comm rfl rfl (Nat.le_of_ble_eq_true rfl) dL_law_454 (st' := [.int r]) rfl rfl ?_
    refine lm_aload_n C dL_law_457 rfl 1 rfl rfl ?_
    refine lm_aload_n C dL_law_458 rfl 3 rfl rfl ?_
    refine lm_iload_n C dL_law_459 rfl 0 rfl rfl ?_
    refine lm_iconst C (v := (1 : Int32)) dL_law_460 (by decide) rfl ?_
    refine lm_iadd C (v := nI (i + 1)) dL_law_461 (nI_add i 1) rfl ?_
    refine lm_sld C (v := xs (i + 1)) hX hbl (Nat.not_le.mpr hbl) (vp_in_nI (by omega) (by omega)) (by rw [nI_clamp (by omega)]) dL_law_462 rfl ?_
    refine lm_if_eq C (tgt := 470) dL_law_463 (by decide) rfl (fun c2 => ?_) (fun c2 => absurd c1 c2)
    refine lm_iconst C (v := (0 : Int32)) dL_law_470 (by decide) rfl ?_
    refine lm_callV C (n := 1) (ci := 7) (w' := mdW z am μ' ++ lmW z zo mm aa h') hA (m_X7_fill D z zo l am μ (0) r μ' F7) gL_law_X7_fill rfl (by decide +kernel) ⟨Nat.le_of_ble_eq_true rfl, Nat.le_of_ble_eq_true rfl⟩ ⟨Nat.le_of_ble_eq_true rfl, Nat.le_of_ble_eq_true rfl⟩ 0 rfl rfl (List.Perm.refl _) (List.Perm.refl _) rfl rfl (Nat.le_of_ble_eq_true rfl) dL_law_471 (st' := [.int r, .int r]) rfl rfl ?_
    refine lm_icmp_eq C (tgt := 835) dL_law_474 (by decide) rfl (fun _ => ?_) (fun c9 => absurd rfl c9)
    exact K
  · have e1 : lw_b (xs (i + 1)) = 1 := if_neg c1
    rw [e1] at F6 F7
    refine lm_iconst C (v := (1 : Int32)) dL_law_449 (by decide) rfl ?_
    refine lm_goto C (tgt := 454) dL_law_450 (by decide) ?_
    refine lm_callV C (n := 1) (ci := 6) (w' := mdW z am μ ++ lmW z zo mm aa h') hA (m_X6_fill D z zo l mm aa h (1) r h' F6) gL_law_X6_fill rfl (by decide +kernel) ⟨Nat.le_of_ble_eq_true rfl, Nat.le_of_ble_eq_true rfl⟩ ⟨Nat.le_of_ble_eq_true rfl, Nat.le_of_ble_eq_true rfl⟩ 8 rfl rfl List.perm_append_comm List.perm_append_comm rfl rfl (Nat.le_of_ble_eq_true rfl) dL_law_454 (st' := [.int r]) rfl rfl ?_
    refine lm_aload_n C dL_law_457 rfl 1 rfl rfl ?_
    refine lm_aload_n C dL_law_458 rfl 3 rfl rfl ?_
    refine lm_iload_n C dL_law_459 rfl 0 rfl rfl ?_
    refine lm_iconst C (v := (1 : Int32)) dL_law_460 (by decide) rfl ?_
    refine lm_iadd C (v := nI (i + 1)) dL_law_461 (nI_add i 1) rfl ?_
    refine lm_sld C (v := xs (i + 1)) hX hbl (Nat.not_le.mpr hbl) (vp_in_nI (by omega) (by omega)) (by rw [nI_clamp (by omega)]) dL_law_462 rfl ?_
    refine lm_if_eq C (tgt := 470) dL_law_463 (by decide) rfl (fun c2 => absurd c2 c1) (fun c2 => ?_)
    refine lm_iconst C (v := (1 : Int32)) dL_law_466 (by decide) rfl ?_
    refine lm_goto C (tgt := 471) dL_law_467 (by decide) ?_
    refine lm_callV C (n := 1) (ci := 7) (w' := mdW z am μ' ++ lmW z zo mm aa h') hA (m_X7_fill D z zo l am μ (1) r μ' F7) gL_law_X7_fill rfl (by decide +kernel) ⟨Nat.le_of_ble_eq_true rfl, Nat.le_of_ble_eq_true rfl⟩ ⟨Nat.le_of_ble_eq_true rfl, Nat.le_of_ble_eq_true rfl⟩ 0 rfl rfl (List.Perm.refl _) (List.Perm.refl _) rfl rfl (Nat.le_of_ble_eq_true rfl) dL_law_471 (st' := [.int r, .int r]) rfl rfl ?_
    refine lm_icmp_eq C (tgt := 835) dL_law_474 (by decide) rfl (fun _ => ?_) (fun c9 => absurd rfl c9)
    exact K
set_option maxRecDepth 100000 in
set_option maxHeartbeats 4000000 in
theorem law_carryOut (C : law_Cx p s m b c D z zo d0) (hA : lm_AZ (fun q : Nat => s.heap.size ≤ q) (s.setDrawn d0)) (hX : va_X b L xs s s.heap) (hbl : b < s.heap.size) (hL : L ≤ 2048) (hi : i + 4 ≤ L) (F6 : F_X6_carryOut h  = some (r, h')) (F7 : F_X7_carryOut μ  = some (r, μ')) (K : law_St p l e s m b below meth c D Q d0 (mdW z am μ' ++ lmW z zo mm aa h') 835 (law_lv mm am b i) []) : law_St p l e s m b below meth c D Q d0 (mdW z am μ ++ lmW z zo mm aa h) 479 (law_lv mm am b i) [] := by
  refine lm_aload_n C dL_law_479 rfl 2 rfl rfl ?_
  refine lm_callV C (n := 0) (ci := 6) (w' := mdW z am μ ++ lmW z zo mm aa h') hA (m_X6_carryOut D z zo l mm aa h  r h' F6) gL_law_X6_carryOut rfl (by decide +kernel) ⟨Nat.le_of_ble_eq_true rfl, Nat.le_of_ble_eq_true rfl⟩ ⟨Nat.le_of_ble_eq_true rfl, Nat.le_of_ble_eq_true rfl⟩ 8 rfl rfl List.perm_append_comm List.perm_append_comm rfl rfl (Nat.le_of_ble_eq_true rfl) dL_law_480 (st' := [.int r]) rfl rfl ?_
  refine lm_aload_n C dL_law_483 rfl 1 rfl rfl ?_
  refine lm_callV C (n := 0) (ci := 7) (w' := mdW z am μ' ++ lmW z zo mm aa h') hA (m_X7_carryOut D z zo l am μ  r μ' F7) gL_law_X7_carryOut rfl (by decide +kernel) ⟨Nat.le_of_ble_eq_true rfl, Nat.le_of_ble_eq_true rfl⟩ ⟨Nat.le_of_ble_eq_true rfl, Nat.le_of_ble_eq_true rfl⟩ 0 rfl rfl (List.Perm.refl _) (List.Perm.refl _) rfl rfl (Nat.le_of_ble_eq_true rfl) dL_law_484 (st' := [.int r, .int r]) rfl rfl ?_
  refine lm_icmp_eq C (tgt := 835) dL_law_487 (by decide) rfl (fun _ => ?_) (fun c9 => absurd rfl c9)
  exact K
set_option maxRecDepth 100000 in
set_option maxHeartbeats 4000000 in
theorem law_why (C : law_Cx p s m b c D z zo d0) (hA : lm_AZ (fun q : Nat => s.heap.size ≤ q) (s.setDrawn d0)) (hX : va_X b L xs s s.heap) (hbl : b < s.heap.size) (hL : L ≤ 2048) (hi : i + 4 ≤ L) (F6 : F_X6_why h (xs (i + 1)) = some r) (F7 : F_X7_why μ (xs (i + 1)) = some r) (K : law_St p l e s m b below meth c D Q d0 (mdW z am μ ++ lmW z zo mm aa h) 835 (law_lv mm am b i) []) : law_St p l e s m b below meth c D Q d0 (mdW z am μ ++ lmW z zo mm aa h) 492 (law_lv mm am b i) [] := by
  refine lm_aload_n C dL_law_492 rfl 2 rfl rfl ?_
  refine lm_aload_n C dL_law_493 rfl 3 rfl rfl ?_
  refine lm_iload_n C dL_law_494 rfl 0 rfl rfl ?_
  refine lm_iconst C (v := (1 : Int32)) dL_law_495 (by decide) rfl ?_
  refine lm_iadd C (v := nI (i + 1)) dL_law_496 (nI_add i 1) rfl ?_
  refine lm_sld C (v := xs (i + 1)) hX hbl (Nat.not_le.mpr hbl) (vp_in_nI (by omega) (by omega)) (by rw [nI_clamp (by omega)]) dL_law_497 rfl ?_
  refine lm_callVR C (n := 1) (ci := 6) (m_X6_why D z zo l mm aa h ((xs (i + 1))) r F6) gL_law_X6_why rfl (by decide +kernel) ⟨Nat.le_of_ble_eq_true rfl, Nat.le_of_ble_eq_true rfl⟩ ⟨Nat.le_of_ble_eq_true rfl, Nat.le_of_ble_eq_true rfl⟩ 8 rfl rfl (fun q hq => List.mem_append_right _ hq) rfl rfl (Nat.le_of_ble_eq_true rfl) dL_law_498 (st' := [.int r]) rfl rfl ?_
  refine lm_aload_n C dL_law_501 rfl 1 rfl rfl ?_
  refine lm_aload_n C dL_law_502 rfl 3 rfl rfl ?_
  refine lm_iload_n C dL_law_503 rfl 0 rfl rfl ?_
  refine lm_iconst C (v := (1 : Int32)) dL_law_504 (by decide) rfl ?_
  refine lm_iadd C (v := nI (i + 1)) dL_law_505 (nI_add i 1) rfl ?_
  refine lm_sld C (v := xs (i + 1)) hX hbl (Nat.not_le.mpr hbl) (vp_in_nI (by omega) (by omega)) (by rw [nI_clamp (by omega)]) dL_law_506 rfl ?_
  refine lm_callVR C (n := 1) (ci := 7) (m_X7_why D z zo l am μ ((xs (i + 1))) r F7) gL_law_X7_why rfl (by decide +kernel) ⟨Nat.le_of_ble_eq_true rfl, Nat.le_of_ble_eq_true rfl⟩ ⟨Nat.le_of_ble_eq_true rfl, Nat.le_of_ble_eq_true rfl⟩ 0 rfl rfl (fun q hq => List.mem_append_left _ hq) rfl rfl (Nat.le_of_ble_eq_true rfl) dL_law_507 (st' := [.int r, .int r]) rfl rfl ?_
  refine lm_icmp_eq C (tgt := 835) dL_law_510 (by decide) rfl (fun _ => ?_) (fun c9 => absurd rfl c9)
  exact K
set_option maxRecDepth 100000 in
set_option maxHeartbeats 4000000 in
theorem law_row (C : law_Cx p s m b c D z zo d0) (hA : lm_AZ (fun q : Nat => s.heap.size ≤ q) (s.setDrawn d0)) (hX : va_X b L xs s s.heap) (hbl : b < s.heap.size) (hL : L ≤ 2048) (hi : i + 4 ≤ L) (F6 : F_X6_row h (lw_b (xs (i + 1))) (xs (i + 2)) (xs (i + 3)) = some r) (F7 : F_X7_row μ (lw_b (xs (i + 1))) (xs (i + 2)) (xs (i + 3)) = some r) (K : law_St p l e s m b below meth c D Q d0 (mdW z am μ ++ lmW z zo mm aa h) 835 (law_lv mm am b i) []) : law_St p l e s m b below meth c D Q d0 (mdW z am μ ++ lmW z zo mm aa h) 515 (law_lv mm am b i) [] := by
  refine lm_aload_n C dL_law_515 rfl 2 rfl rfl ?_
  refine lm_aload_n C dL_law_516 rfl 3 rfl rfl ?_
  refine lm_iload_n C dL_law_517 rfl 0 rfl rfl ?_
  refine lm_iconst C (v := (1 : Int32)) dL_law_518 (by decide) rfl ?_
  refine lm_iadd C (v := nI (i + 1)) dL_law_519 (nI_add i 1) rfl ?_
  refine lm_sld C (v := xs (i + 1)) hX hbl (Nat.not_le.mpr hbl) (vp_in_nI (by omega) (by omega)) (by rw [nI_clamp (by omega)]) dL_law_520 rfl ?_
  refine lm_if_eq C (tgt := 528) dL_law_521 (by decide) rfl (fun c1 => ?_) (fun c1 => ?_)
  · have e1 : lw_b (xs (i + 1)) = 0 := if_pos c1
    rw [e1] at F6 F7
    refine lm_iconst C (v := (0 : Int32)) dL_law_528 (by decide) rfl ?_
    refine lm_aload_n C dL_law_529 rfl 3 rfl rfl ?_
    refine lm_iload_n C dL_law_530 rfl 0 rfl rfl ?_
    refine lm_iconst C (v := (2 : Int32)) dL_law_531 (by decide) rfl ?_
    refine lm_iadd C (v := nI (i + 2)) dL_law_532 (nI_add i 2) rfl ?_
    refine lm_sld C (v := xs (i + 2)) hX hbl (Nat.not_le.mpr hbl) (vp_in_nI (by omega) (by omega)) (by rw [nI_clamp (by omega)]) dL_law_533 rfl ?_
    refine lm_aload_n C dL_law_534 rfl 3 rfl rfl ?_
    refine lm_iload_n C dL_law_535 rfl 0 rfl rfl ?_
    refine lm_iconst C (v := (3 : Int32)) dL_law_536 (by decide) rfl ?_
    refine lm_iadd C (v := nI (i + 3)) dL_law_537 (nI_add i 3) rfl ?_
    refine lm_sld C (v := xs (i + 3)) hX hbl (Nat.not_le.mpr hbl) (vp_in_nI (by omega) (by omega)) (by rw [nI_clamp (by omega)]) dL_law_538 rfl ?_
    refine lm_callVR C (n := 3) (ci := 6) (m_X6_row D z zo l mm aa h (0) ((xs (i + 2))) ((xs (i + 3))) r F6) gL_law_X6_row rfl (by decide +kernel) ⟨Nat.le_of_ble_eq_true rfl, Nat.le_of_ble_eq_true rfl⟩ ⟨Nat.le_of_ble_eq_true rfl, Nat.le_of_ble_eq_true rfl⟩ 8 rfl rfl (fun q hq => List.mem_append_right _ hq) rfl rfl (Nat.le_of_ble_eq_true rfl) dL_law_539 (st' := [.int r]) rfl rfl ?_
    refine lm_aload_n C dL_law_542 rfl 1 rfl rfl ?_
    refine lm_aload_n C dL_law_543 rfl 3 rfl rfl ?_
    refine lm_iload_n C dL_law_544 rfl 0 rfl rfl ?_
    refine lm_iconst C (v := (1 : Int32)) dL_law_545 (by decide) rfl ?_
    refine lm_iadd C (v := nI (i + 1)) dL_law_546 (nI_add i 1) rfl ?_
    refine lm_sld C (v := xs (i + 1)) hX hbl (Nat.not_le.mpr hbl) (vp_in_nI (by omega) (by omega)) (by rw [nI_clamp (by omega)]) dL_law_547 rfl ?_
    refine lm_if_eq C (tgt := 555) dL_law_548 (by decide) rfl (fun c2 => ?_) (fun c2 => absurd c1 c2)
    refine lm_iconst C (v := (0 : Int32)) dL_law_555 (by decide) rfl ?_
    refine lm_aload_n C dL_law_556 rfl 3 rfl rfl ?_
    refine lm_iload_n C dL_law_557 rfl 0 rfl rfl ?_
    refine lm_iconst C (v := (2 : Int32)) dL_law_558 (by decide) rfl ?_
    refine lm_iadd C (v := nI (i + 2)) dL_law_559 (nI_add i 2) rfl ?_
    refine lm_sld C (v := xs (i + 2)) hX hbl (Nat.not_le.mpr hbl) (vp_in_nI (by omega) (by omega)) (by rw [nI_clamp (by omega)]) dL_law_560 rfl ?_
    refine lm_aload_n C dL_law_561 rfl 3 rfl rfl ?_
    refine lm_iload_n C dL_law_562 rfl 0 rfl rfl ?_
    refine lm_iconst C (v := (3 : Int32)) dL_law_563 (by decide) rfl ?_
    refine lm_iadd C (v := nI (i + 3)) dL_law_564 (nI_add i 3) rfl ?_
    refine lm_sld C (v := xs (i + 3)) hX hbl (Nat.not_le.mpr hbl) (vp_in_nI (by omega) (by omega)) (by rw [nI_clamp (by omega)]) dL_law_565 rfl ?_
    refine lm_callVR C (n := 3) (ci := 7) (m_X7_row D z zo l am μ (0) ((xs (i + 2))) ((xs (i + 3))) r F7) gL_law_X7_row rfl (by decide +kernel) ⟨Nat.le_of_ble_eq_true rfl, Nat.le_of_ble_eq_true rfl⟩ ⟨Nat.le_of_ble_eq_true rfl, Nat.le_of_ble_eq_true rfl⟩ 0 rfl rfl (fun q hq => List.mem_append_left _ hq) rfl rfl (Nat.le_of_ble_eq_true rfl) dL_law_566 (st' := [.int r, .int r]) rfl rfl ?_
    refine lm_icmp_eq C (tgt := 835) dL_law_569 (by decide) rfl (fun _ => ?_) (fun c9 => absurd rfl c9)
    exact K
  · have e1 : lw_b (xs (i + 1)) = 1 := if_neg c1
    rw [e1] at F6 F7
    refine lm_iconst C (v := (1 : Int32)) dL_law_524 (by decide) rfl ?_
    refine lm_goto C (tgt := 529) dL_law_525 (by decide) ?_
    refine lm_aload_n C dL_law_529 rfl 3 rfl rfl ?_
    refine lm_iload_n C dL_law_530 rfl 0 rfl rfl ?_
    refine lm_iconst C (v := (2 : Int32)) dL_law_531 (by decide) rfl ?_
    refine lm_iadd C (v := nI (i + 2)) dL_law_532 (nI_add i 2) rfl ?_
    refine lm_sld C (v := xs (i + 2)) hX hbl (Nat.not_le.mpr hbl) (vp_in_nI (by omega) (by omega)) (by rw [nI_clamp (by omega)]) dL_law_533 rfl ?_
    refine lm_aload_n C dL_law_534 rfl 3 rfl rfl ?_
    refine lm_iload_n C dL_law_535 rfl 0 rfl rfl ?_
    refine lm_iconst C (v := (3 : Int32)) dL_law_536 (by decide) rfl ?_
    refine lm_iadd C (v := nI (i + 3)) dL_law_537 (nI_add i 3) rfl ?_
    refine lm_sld C (v := xs (i + 3)) hX hbl (Nat.not_le.mpr hbl) (vp_in_nI (by omega) (by omega)) (by rw [nI_clamp (by omega)]) dL_law_538 rfl ?_
    refine lm_callVR C (n := 3) (ci := 6) (m_X6_row D z zo l mm aa h (1) ((xs (i + 2))) ((xs (i + 3))) r F6) gL_law_X6_row rfl (by decide +kernel) ⟨Nat.le_of_ble_eq_true rfl, Nat.le_of_ble_eq_true rfl⟩ ⟨Nat.le_of_ble_eq_true rfl, Nat.le_of_ble_eq_true rfl⟩ 8 rfl rfl (fun q hq => List.mem_append_right _ hq) rfl rfl (Nat.le_of_ble_eq_true rfl) dL_law_539 (st' := [.int r]) rfl rfl ?_
    refine lm_aload_n C dL_law_542 rfl 1 rfl rfl ?_
    refine lm_aload_n C dL_law_543 rfl 3 rfl rfl ?_
    refine lm_iload_n C dL_law_544 rfl 0 rfl rfl ?_
    refine lm_iconst C (v := (1 : Int32)) dL_law_545 (by decide) rfl ?_
    refine lm_iadd C (v := nI (i + 1)) dL_law_546 (nI_add i 1) rfl ?_
    refine lm_sld C (v := xs (i + 1)) hX hbl (Nat.not_le.mpr hbl) (vp_in_nI (by omega) (by omega)) (by rw [nI_clamp (by omega)]) dL_law_547 rfl ?_
    refine lm_if_eq C (tgt := 555) dL_law_548 (by decide) rfl (fun c2 => absurd c2 c1) (fun c2 => ?_)
    refine lm_iconst C (v := (1 : Int32)) dL_law_551 (by decide) rfl ?_
    refine lm_goto C (tgt := 556) dL_law_552 (by decide) ?_
    refine lm_aload_n C dL_law_556 rfl 3 rfl rfl ?_
    refine lm_iload_n C dL_law_557 rfl 0 rfl rfl ?_
    refine lm_iconst C (v := (2 : Int32)) dL_law_558 (by decide) rfl ?_
    refine lm_iadd C (v := nI (i + 2)) dL_law_559 (nI_add i 2) rfl ?_
    refine lm_sld C (v := xs (i + 2)) hX hbl (Nat.not_le.mpr hbl) (vp_in_nI (by omega) (by omega)) (by rw [nI_clamp (by omega)]) dL_law_560 rfl ?_
    refine lm_aload_n C dL_law_561 rfl 3 rfl rfl ?_
    refine lm_iload_n C dL_law_562 rfl 0 rfl rfl ?_
    refine lm_iconst C (v := (3 : Int32)) dL_law_563 (by decide) rfl ?_
    refine lm_iadd C (v := nI (i + 3)) dL_law_564 (nI_add i 3) rfl ?_
    refine lm_sld C (v := xs (i + 3)) hX hbl (Nat.not_le.mpr hbl) (vp_in_nI (by omega) (by omega)) (by rw [nI_clamp (by omega)]) dL_law_565 rfl ?_
    refine lm_callVR C (n := 3) (ci := 7) (m_X7_row D z zo l am μ (1) ((xs (i + 2))) ((xs (i + 3))) r F7) gL_law_X7_row rfl (by decide +kernel) ⟨Nat.le_of_ble_eq_true rfl, Nat.le_of_ble_eq_true rfl⟩ ⟨Nat.le_of_ble_eq_true rfl, Nat.le_of_ble_eq_true rfl⟩ 0 rfl rfl (fun q hq => List.mem_append_left _ hq) rfl rfl (Nat.le_of_ble_eq_true rfl) dL_law_566 (st' := [.int r, .int r]) rfl rfl ?_
    refine lm_icmp_eq C (tgt := 835) dL_law_569 (by decide) rfl (fun _ => ?_) (fun c9 => absurd rfl c9)
    exact K
set_option maxRecDepth 100000 in
set_option maxHeartbeats 4000000 in
theorem law_answer (C : law_Cx p s m b c D z zo d0) (hA : lm_AZ (fun q : Nat => s.heap.size ≤ q) (s.setDrawn d0)) (hX : va_X b L xs s s.heap) (hbl : b < s.heap.size) (hL : L ≤ 2048) (hi : i + 4 ≤ L) (F6 : F_X6_answer h (xs (i + 1)) (xs (i + 2)) = some r) (F7 : F_X7_answer μ (xs (i + 1)) (xs (i + 2)) = some r) (K : law_St p l e s m b below meth c D Q d0 (mdW z am μ ++ lmW z zo mm aa h) 835 (law_lv mm am b i) []) : law_St p l e s m b below meth c D Q d0 (mdW z am μ ++ lmW z zo mm aa h) 574 (law_lv mm am b i) [] := by
  refine lm_aload_n C dL_law_574 rfl 2 rfl rfl ?_
  refine lm_aload_n C dL_law_575 rfl 3 rfl rfl ?_
  refine lm_iload_n C dL_law_576 rfl 0 rfl rfl ?_
  refine lm_iconst C (v := (1 : Int32)) dL_law_577 (by decide) rfl ?_
  refine lm_iadd C (v := nI (i + 1)) dL_law_578 (nI_add i 1) rfl ?_
  refine lm_sld C (v := xs (i + 1)) hX hbl (Nat.not_le.mpr hbl) (vp_in_nI (by omega) (by omega)) (by rw [nI_clamp (by omega)]) dL_law_579 rfl ?_
  refine lm_aload_n C dL_law_580 rfl 3 rfl rfl ?_
  refine lm_iload_n C dL_law_581 rfl 0 rfl rfl ?_
  refine lm_iconst C (v := (2 : Int32)) dL_law_582 (by decide) rfl ?_
  refine lm_iadd C (v := nI (i + 2)) dL_law_583 (nI_add i 2) rfl ?_
  refine lm_sld C (v := xs (i + 2)) hX hbl (Nat.not_le.mpr hbl) (vp_in_nI (by omega) (by omega)) (by rw [nI_clamp (by omega)]) dL_law_584 rfl ?_
  refine lm_callVR C (n := 2) (ci := 6) (m_X6_answer D z zo l mm aa h ((xs (i + 1))) ((xs (i + 2))) r F6) gL_law_X6_answer rfl (by decide +kernel) ⟨Nat.le_of_ble_eq_true rfl, Nat.le_of_ble_eq_true rfl⟩ ⟨Nat.le_of_ble_eq_true rfl, Nat.le_of_ble_eq_true rfl⟩ 8 rfl rfl (fun q hq => List.mem_append_right _ hq) rfl rfl (Nat.le_of_ble_eq_true rfl) dL_law_585 (st' := [.int r]) rfl rfl ?_
  refine lm_aload_n C dL_law_588 rfl 1 rfl rfl ?_
  refine lm_aload_n C dL_law_589 rfl 3 rfl rfl ?_
  refine lm_iload_n C dL_law_590 rfl 0 rfl rfl ?_
  refine lm_iconst C (v := (1 : Int32)) dL_law_591 (by decide) rfl ?_
  refine lm_iadd C (v := nI (i + 1)) dL_law_592 (nI_add i 1) rfl ?_
  refine lm_sld C (v := xs (i + 1)) hX hbl (Nat.not_le.mpr hbl) (vp_in_nI (by omega) (by omega)) (by rw [nI_clamp (by omega)]) dL_law_593 rfl ?_
  refine lm_aload_n C dL_law_594 rfl 3 rfl rfl ?_
  refine lm_iload_n C dL_law_595 rfl 0 rfl rfl ?_
  refine lm_iconst C (v := (2 : Int32)) dL_law_596 (by decide) rfl ?_
  refine lm_iadd C (v := nI (i + 2)) dL_law_597 (nI_add i 2) rfl ?_
  refine lm_sld C (v := xs (i + 2)) hX hbl (Nat.not_le.mpr hbl) (vp_in_nI (by omega) (by omega)) (by rw [nI_clamp (by omega)]) dL_law_598 rfl ?_
  refine lm_callVR C (n := 2) (ci := 7) (m_X7_answer D z zo l am μ ((xs (i + 1))) ((xs (i + 2))) r F7) gL_law_X7_answer rfl (by decide +kernel) ⟨Nat.le_of_ble_eq_true rfl, Nat.le_of_ble_eq_true rfl⟩ ⟨Nat.le_of_ble_eq_true rfl, Nat.le_of_ble_eq_true rfl⟩ 0 rfl rfl (fun q hq => List.mem_append_left _ hq) rfl rfl (Nat.le_of_ble_eq_true rfl) dL_law_599 (st' := [.int r, .int r]) rfl rfl ?_
  refine lm_icmp_eq C (tgt := 835) dL_law_602 (by decide) rfl (fun _ => ?_) (fun c9 => absurd rfl c9)
  exact K
set_option maxRecDepth 100000 in
set_option maxHeartbeats 4000000 in
theorem law_remembered (C : law_Cx p s m b c D z zo d0) (hA : lm_AZ (fun q : Nat => s.heap.size ≤ q) (s.setDrawn d0)) (hX : va_X b L xs s s.heap) (hbl : b < s.heap.size) (hL : L ≤ 2048) (hi : i + 4 ≤ L) (F6 : F_X6_remembered h (xs (i + 1)) (xs (i + 2)) = some r) (F7 : F_X7_remembered μ (xs (i + 1)) (xs (i + 2)) = some r) (K : law_St p l e s m b below meth c D Q d0 (mdW z am μ ++ lmW z zo mm aa h) 835 (law_lv mm am b i) []) : law_St p l e s m b below meth c D Q d0 (mdW z am μ ++ lmW z zo mm aa h) 607 (law_lv mm am b i) [] := by
  refine lm_aload_n C dL_law_607 rfl 2 rfl rfl ?_
  refine lm_aload_n C dL_law_608 rfl 3 rfl rfl ?_
  refine lm_iload_n C dL_law_609 rfl 0 rfl rfl ?_
  refine lm_iconst C (v := (1 : Int32)) dL_law_610 (by decide) rfl ?_
  refine lm_iadd C (v := nI (i + 1)) dL_law_611 (nI_add i 1) rfl ?_
  refine lm_sld C (v := xs (i + 1)) hX hbl (Nat.not_le.mpr hbl) (vp_in_nI (by omega) (by omega)) (by rw [nI_clamp (by omega)]) dL_law_612 rfl ?_
  refine lm_aload_n C dL_law_613 rfl 3 rfl rfl ?_
  refine lm_iload_n C dL_law_614 rfl 0 rfl rfl ?_
  refine lm_iconst C (v := (2 : Int32)) dL_law_615 (by decide) rfl ?_
  refine lm_iadd C (v := nI (i + 2)) dL_law_616 (nI_add i 2) rfl ?_
  refine lm_sld C (v := xs (i + 2)) hX hbl (Nat.not_le.mpr hbl) (vp_in_nI (by omega) (by omega)) (by rw [nI_clamp (by omega)]) dL_law_617 rfl ?_
  refine lm_callVR C (n := 2) (ci := 6) (m_X6_remembered D z zo l mm aa h ((xs (i + 1))) ((xs (i + 2))) r F6) gL_law_X6_remembered rfl (by decide +kernel) ⟨Nat.le_of_ble_eq_true rfl, Nat.le_of_ble_eq_true rfl⟩ ⟨Nat.le_of_ble_eq_true rfl, Nat.le_of_ble_eq_true rfl⟩ 8 rfl rfl (fun q hq => List.mem_append_right _ hq) rfl rfl (Nat.le_of_ble_eq_true rfl) dL_law_618 (st' := [.int r]) rfl rfl ?_
  refine lm_aload_n C dL_law_621 rfl 1 rfl rfl ?_
  refine lm_aload_n C dL_law_622 rfl 3 rfl rfl ?_
  refine lm_iload_n C dL_law_623 rfl 0 rfl rfl ?_
  refine lm_iconst C (v := (1 : Int32)) dL_law_624 (by decide) rfl ?_
  refine lm_iadd C (v := nI (i + 1)) dL_law_625 (nI_add i 1) rfl ?_
  refine lm_sld C (v := xs (i + 1)) hX hbl (Nat.not_le.mpr hbl) (vp_in_nI (by omega) (by omega)) (by rw [nI_clamp (by omega)]) dL_law_626 rfl ?_
  refine lm_aload_n C dL_law_627 rfl 3 rfl rfl ?_
  refine lm_iload_n C dL_law_628 rfl 0 rfl rfl ?_
  refine lm_iconst C (v := (2 : Int32)) dL_law_629 (by decide) rfl ?_
  refine lm_iadd C (v := nI (i + 2)) dL_law_630 (nI_add i 2) rfl ?_
  refine lm_sld C (v := xs (i + 2)) hX hbl (Nat.not_le.mpr hbl) (vp_in_nI (by omega) (by omega)) (by rw [nI_clamp (by omega)]) dL_law_631 rfl ?_
  refine lm_callVR C (n := 2) (ci := 7) (m_X7_remembered D z zo l am μ ((xs (i + 1))) ((xs (i + 2))) r F7) gL_law_X7_remembered rfl (by decide +kernel) ⟨Nat.le_of_ble_eq_true rfl, Nat.le_of_ble_eq_true rfl⟩ ⟨Nat.le_of_ble_eq_true rfl, Nat.le_of_ble_eq_true rfl⟩ 0 rfl rfl (fun q hq => List.mem_append_left _ hq) rfl rfl (Nat.le_of_ble_eq_true rfl) dL_law_632 (st' := [.int r, .int r]) rfl rfl ?_
  refine lm_icmp_eq C (tgt := 835) dL_law_635 (by decide) rfl (fun _ => ?_) (fun c9 => absurd rfl c9)
  exact K
set_option maxRecDepth 100000 in
set_option maxHeartbeats 4000000 in
theorem law_count (C : law_Cx p s m b c D z zo d0) (hA : lm_AZ (fun q : Nat => s.heap.size ≤ q) (s.setDrawn d0)) (hX : va_X b L xs s s.heap) (hbl : b < s.heap.size) (hL : L ≤ 2048) (hi : i + 4 ≤ L) (F6 : F_X6_count h (xs (i + 1)) = some r) (F7 : F_X7_count μ (xs (i + 1)) = some r) (K : law_St p l e s m b below meth c D Q d0 (mdW z am μ ++ lmW z zo mm aa h) 835 (law_lv mm am b i) []) : law_St p l e s m b below meth c D Q d0 (mdW z am μ ++ lmW z zo mm aa h) 640 (law_lv mm am b i) [] := by
  refine lm_aload_n C dL_law_640 rfl 2 rfl rfl ?_
  refine lm_aload_n C dL_law_641 rfl 3 rfl rfl ?_
  refine lm_iload_n C dL_law_642 rfl 0 rfl rfl ?_
  refine lm_iconst C (v := (1 : Int32)) dL_law_643 (by decide) rfl ?_
  refine lm_iadd C (v := nI (i + 1)) dL_law_644 (nI_add i 1) rfl ?_
  refine lm_sld C (v := xs (i + 1)) hX hbl (Nat.not_le.mpr hbl) (vp_in_nI (by omega) (by omega)) (by rw [nI_clamp (by omega)]) dL_law_645 rfl ?_
  refine lm_callVR C (n := 1) (ci := 6) (m_X6_count D z zo l mm aa h ((xs (i + 1))) r F6) gL_law_X6_count rfl (by decide +kernel) ⟨Nat.le_of_ble_eq_true rfl, Nat.le_of_ble_eq_true rfl⟩ ⟨Nat.le_of_ble_eq_true rfl, Nat.le_of_ble_eq_true rfl⟩ 8 rfl rfl (fun q hq => List.mem_append_right _ hq) rfl rfl (Nat.le_of_ble_eq_true rfl) dL_law_646 (st' := [.int r]) rfl rfl ?_
  refine lm_aload_n C dL_law_649 rfl 1 rfl rfl ?_
  refine lm_aload_n C dL_law_650 rfl 3 rfl rfl ?_
  refine lm_iload_n C dL_law_651 rfl 0 rfl rfl ?_
  refine lm_iconst C (v := (1 : Int32)) dL_law_652 (by decide) rfl ?_
  refine lm_iadd C (v := nI (i + 1)) dL_law_653 (nI_add i 1) rfl ?_
  refine lm_sld C (v := xs (i + 1)) hX hbl (Nat.not_le.mpr hbl) (vp_in_nI (by omega) (by omega)) (by rw [nI_clamp (by omega)]) dL_law_654 rfl ?_
  refine lm_callVR C (n := 1) (ci := 7) (m_X7_count D z zo l am μ ((xs (i + 1))) r F7) gL_law_X7_count rfl (by decide +kernel) ⟨Nat.le_of_ble_eq_true rfl, Nat.le_of_ble_eq_true rfl⟩ ⟨Nat.le_of_ble_eq_true rfl, Nat.le_of_ble_eq_true rfl⟩ 0 rfl rfl (fun q hq => List.mem_append_left _ hq) rfl rfl (Nat.le_of_ble_eq_true rfl) dL_law_655 (st' := [.int r, .int r]) rfl rfl ?_
  refine lm_icmp_eq C (tgt := 835) dL_law_658 (by decide) rfl (fun _ => ?_) (fun c9 => absurd rfl c9)
  exact K
end LW2
