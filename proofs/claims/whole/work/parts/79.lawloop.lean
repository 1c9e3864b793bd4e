/-! the law: its loop -/
section LL1
variable {p : Program} {l : Launch} {e : Env} {s : State} {m : MethodId} {below : List Frame} {meth : Method} {c : Code} {D : va_G} {z zo : ClassId} {b L : Nat} {xs : Nat → Int32} {mm am : Nat → Nat} {aa : Nat → Nat → Nat}
set_option maxRecDepth 100000 in
set_option maxHeartbeats 8000000 in
theorem law_body {Q : State → Prop} (C : ∀ d, law_Cx p s m b c D z zo d) (hA : ∀ d, lm_AZ (fun q : Nat => s.heap.size ≤ q) (s.setDrawn d)) (hX : va_X b L xs s s.heap) (hbl : b < s.heap.size) (hL : L ≤ 2048) {k : Nat} (hi : 4 * k + 4 ≤ L) {d0 : Drawn} (hd0 : s.drawn.sameBut d0 lw_cs) {h : Nat → Hp} {μ : Hp} (hR : GR k h μ) (K : ∀ (d : Drawn) (h' : Nat → Hp) (μ' : Hp), s.drawn.sameBut d lw_cs → GR (k + 1) h' μ' → law_St p l e s m b below meth c D Q d (mdW z am μ' ++ lmW z zo mm aa h') 835 (law_lv mm am b (4 * k)) []) : law_St p l e s m b below meth c D Q d0 (mdW z am μ ++ lmW z zo mm aa h) 26 (law_lv mm am b (4 * k)) [] := by
  have hk : k < 512 := by omega
  have hU : GR (k + 1) h μ := GR.up hk hR
  refine lm_aload_n (C d0) dL_law_26 rfl 3 rfl rfl ?_
  refine lm_iload_n (C d0) dL_law_27 rfl 0 rfl rfl ?_
  refine lm_sld (C d0) (v := xs (4 * k)) hX hbl (Nat.not_le.mpr hbl) (vp_in_nI (by omega) (by omega)) (by rw [nI_clamp (by omega)]) dL_law_28 rfl ?_
  refine lm_bipush (C d0) (v := (31 : Int32)) dL_law_29 (by decide) rfl ?_
  refine lm_iand (C d0) (v := xs (4 * k) &&& 31) dL_law_31 rfl rfl ?_
  generalize xs (4 * k) &&& 31 = v
  rcases Classical.em (v = (0 : Int32)) with c0 | c0
  · refine lm_tableIn (C d0) (0 : Int32) (off := 116) (tgt := 148) dL_law_32 c0 (by decide) (by decide) (by decide) (by decide) ?_
    obtain ⟨r, h', μ', F6, F7, hR'⟩ := b_add hk hR (lw_b (xs (4 * k + 1))) (xs (4 * k + 2)) (xs (4 * k + 3))
    exact law_add (C d0) (hA d0) hX hbl hL hi F6 F7 (K d0 h' μ' hd0 hR')
  rcases Classical.em (v = (1 : Int32)) with c1 | c1
  · refine lm_tableIn (C d0) (1 : Int32) (off := 175) (tgt := 207) dL_law_32 c1 (by decide) (by decide) (by decide) (by decide) ?_
    obtain ⟨r, h', μ', F6, F7, hR'⟩ := b_drop hk hR (lw_b (xs (4 * k + 1))) (xs (4 * k + 2))
    exact law_drop (C d0) (hA d0) hX hbl hL hi F6 F7 (K d0 h' μ' hd0 hR')
  rcases Classical.em (v = (2 : Int32)) with c2 | c2
  · refine lm_tableIn (C d0) (2 : Int32) (off := 224) (tgt := 256) dL_law_32 c2 (by decide) (by decide) (by decide) (by decide) ?_
    obtain ⟨r, h', μ', F6, F7, hR'⟩ := b_change hk hR (xs (4 * k + 1)) (xs (4 * k + 2)) (xs (4 * k + 3))
    exact law_change (C d0) (hA d0) hX hbl hL hi F6 F7 (K d0 h' μ' hd0 hR')
  rcases Classical.em (v = (3 : Int32)) with c3 | c3
  · refine lm_tableIn (C d0) (3 : Int32) (off := 267) (tgt := 299) dL_law_32 c3 (by decide) (by decide) (by decide) (by decide) ?_
    obtain ⟨r, h', μ', F6, F7, hR'⟩ := b_step hk hR (xs (4 * k + 1))
    exact law_step (C d0) (hA d0) hX hbl hL hi F6 F7 (K d0 h' μ' hd0 hR')
  rcases Classical.em (v = (4 : Int32)) with c4 | c4
  · refine lm_tableIn (C d0) (4 : Int32) (off := 290) (tgt := 322) dL_law_32 c4 (by decide) (by decide) (by decide) (by decide) ?_
    obtain ⟨r, h', μ', F6, F7, hR'⟩ := b_again hk hR 
    exact law_again (C d0) (hA d0) hX hbl hL hi F6 F7 (K d0 h' μ' hd0 hR')
  rcases Classical.em (v = (5 : Int32)) with c5 | c5
  · refine lm_tableIn (C d0) (5 : Int32) (off := 303) (tgt := 335) dL_law_32 c5 (by decide) (by decide) (by decide) (by decide) ?_
    obtain ⟨r, h', μ', F6, F7, hR'⟩ := b_forget hk hR 
    exact law_forget (C d0) (hA d0) hX hbl hL hi F6 F7 (K d0 h' μ' hd0 hR')
  rcases Classical.em (v = (6 : Int32)) with c6 | c6
  · refine lm_tableIn (C d0) (6 : Int32) (off := 316) (tgt := 348) dL_law_32 c6 (by decide) (by decide) (by decide) (by decide) ?_
    obtain ⟨r, h', μ', F6, F7, hR'⟩ := b_set hk hR (xs (4 * k + 1)) (xs (4 * k + 2))
    exact law_set (C d0) (hA d0) hX hbl hL hi F6 F7 (K d0 h' μ' hd0 hR')
  rcases Classical.em (v = (7 : Int32)) with c7 | c7
  · refine lm_tableIn (C d0) (7 : Int32) (off := 349) (tgt := 381) dL_law_32 c7 (by decide) (by decide) (by decide) (by decide) ?_
    obtain ⟨r, h', μ', F6, F7, hR'⟩ := b_append hk hR (xs (4 * k + 1))
    exact law_append (C d0) (hA d0) hX hbl hL hi F6 F7 (K d0 h' μ' hd0 hR')
  rcases Classical.em (v = (8 : Int32)) with c8 | c8
  · refine lm_tableIn (C d0) (8 : Int32) (off := 372) (tgt := 404) dL_law_32 c8 (by decide) (by decide) (by decide) (by decide) ?_
    obtain ⟨r, h', μ', F6, F7, hR'⟩ := b_clear hk hR 
    exact law_clear (C d0) (hA d0) hX hbl hL hi F6 F7 (K d0 h' μ' hd0 hR')
  rcases Classical.em (v = (9 : Int32)) with c9 | c9
  · refine lm_tableIn (C d0) (9 : Int32) (off := 385) (tgt := 417) dL_law_32 c9 (by decide) (by decide) (by decide) (by decide) ?_
    obtain ⟨r, h', μ', F6, F7, hR'⟩ := b_fault hk hR (xs (4 * k + 1))
    exact law_fault (C d0) (hA d0) hX hbl hL hi F6 F7 (K d0 h' μ' hd0 hR')
  rcases Classical.em (v = (10 : Int32)) with c10 | c10
  · refine lm_tableIn (C d0) (10 : Int32) (off := 408) (tgt := 440) dL_law_32 c10 (by decide) (by decide) (by decide) (by decide) ?_
    obtain ⟨r, h', μ', F6, F7, hR'⟩ := b_fill hk hR (lw_b (xs (4 * k + 1)))
    exact law_fill (C d0) (hA d0) hX hbl hL hi F6 F7 (K d0 h' μ' hd0 hR')
  rcases Classical.em (v = (11 : Int32)) with c11 | c11
  · refine lm_tableIn (C d0) (11 : Int32) (off := 447) (tgt := 479) dL_law_32 c11 (by decide) (by decide) (by decide) (by decide) ?_
    obtain ⟨r, h', μ', F6, F7, hR'⟩ := b_carryOut hk hR 
    exact law_carryOut (C d0) (hA d0) hX hbl hL hi F6 F7 (K d0 h' μ' hd0 hR')
  rcases Classical.em (v = (12 : Int32)) with c12 | c12
  · refine lm_tableIn (C d0) (12 : Int32) (off := 460) (tgt := 492) dL_law_32 c12 (by decide) (by decide) (by decide) (by decide) ?_
    obtain ⟨r, F6, F7⟩ := b_why hR (xs (4 * k + 1))
    exact law_why (C d0) (hA d0) hX hbl hL hi F6 F7 (K d0 h μ hd0 hU)
  rcases Classical.em (v = (13 : Int32)) with c13 | c13
  · refine lm_tableIn (C d0) (13 : Int32) (off := 483) (tgt := 515) dL_law_32 c13 (by decide) (by decide) (by decide) (by decide) ?_
    obtain ⟨r, F6, F7⟩ := b_row hR (lw_b (xs (4 * k + 1))) (xs (4 * k + 2)) (xs (4 * k + 3))
    exact law_row (C d0) (hA d0) hX hbl hL hi F6 F7 (K d0 h μ hd0 hU)
  rcases Classical.em (v = (14 : Int32)) with c14 | c14
  · refine lm_tableIn (C d0) (14 : Int32) (off := 542) (tgt := 574) dL_law_32 c14 (by decide) (by decide) (by decide) (by decide) ?_
    obtain ⟨r, F6, F7⟩ := b_answer hR (xs (4 * k + 1)) (xs (4 * k + 2))
    exact law_answer (C d0) (hA d0) hX hbl hL hi F6 F7 (K d0 h μ hd0 hU)
  rcases Classical.em (v = (15 : Int32)) with c15 | c15
  · refine lm_tableIn (C d0) (15 : Int32) (off := 575) (tgt := 607) dL_law_32 c15 (by decide) (by decide) (by decide) (by decide) ?_
    obtain ⟨r, F6, F7⟩ := b_remembered hR (xs (4 * k + 1)) (xs (4 * k + 2))
    exact law_remembered (C d0) (hA d0) hX hbl hL hi F6 F7 (K d0 h μ hd0 hU)
  rcases Classical.em (v = (16 : Int32)) with c16 | c16
  · refine lm_tableIn (C d0) (16 : Int32) (off := 608) (tgt := 640) dL_law_32 c16 (by decide) (by decide) (by decide) (by decide) ?_
    obtain ⟨r, F6, F7⟩ := b_count hR (xs (4 * k + 1))
    exact law_count (C d0) (hA d0) hX hbl hL hi F6 F7 (K d0 h μ hd0 hU)
  rcases Classical.em (v = (17 : Int32)) with c17 | c17
  · refine lm_tableIn (C d0) (17 : Int32) (off := 631) (tgt := 663) dL_law_32 c17 (by decide) (by decide) (by decide) (by decide) ?_
    obtain ⟨r, F6, F7⟩ := b_total hR (xs (4 * k + 1))
    exact law_total (C d0) (hA d0) hX hbl hL hi F6 F7 (K d0 h μ hd0 hU)
  rcases Classical.em (v = (18 : Int32)) with c18 | c18
  · refine lm_tableIn (C d0) (18 : Int32) (off := 654) (tgt := 686) dL_law_32 c18 (by decide) (by decide) (by decide) (by decide) ?_
    exact law_rate C hd0 (b_rate hR) (fun d hd => K d h μ hd hU)
  rcases Classical.em (v = (19 : Int32)) with c19 | c19
  · refine lm_tableIn (C d0) (19 : Int32) (off := 695) (tgt := 727) dL_law_32 c19 (by decide) (by decide) (by decide) (by decide) ?_
    obtain ⟨r, h', μ', F6, F7, hR'⟩ := b_ifBound hk hR (xs (4 * k + 1)) (xs (4 * k + 2))
    exact law_ifBound (C d0) (hA d0) hX hbl hL hi F6 F7 (K d0 h' μ' hd0 hR')
  rcases Classical.em (v = (20 : Int32)) with c20 | c20
  · refine lm_tableIn (C d0) (20 : Int32) (off := 728) (tgt := 760) dL_law_32 c20 (by decide) (by decide) (by decide) (by decide) ?_
    obtain ⟨r, h', μ', F6, F7, hR'⟩ := b_ifOrdered hk hR (xs (4 * k + 1))
    exact law_ifOrdered (C d0) (hA d0) hX hbl hL hi F6 F7 (K d0 h' μ' hd0 hR')
  rcases Classical.em (v = (21 : Int32)) with c21 | c21
  · refine lm_tableIn (C d0) (21 : Int32) (off := 751) (tgt := 783) dL_law_32 c21 (by decide) (by decide) (by decide) (by decide) ?_
    obtain ⟨r, h', μ', F6, F7, hR'⟩ := b_leastBound hk hR 
    exact law_leastBound (C d0) (hA d0) hX hbl hL hi F6 F7 (K d0 h' μ' hd0 hR')
  rcases Classical.em (v = (22 : Int32)) with c22 | c22
  · refine lm_tableIn (C d0) (22 : Int32) (off := 764) (tgt := 796) dL_law_32 c22 (by decide) (by decide) (by decide) (by decide) ?_
    obtain ⟨r, h', μ', F6, F7, hR'⟩ := b_undo hk hR 
    exact law_undo (C d0) (hA d0) hX hbl hL hi F6 F7 (K d0 h' μ' hd0 hR')
  rcases Classical.em (v = (23 : Int32)) with c23 | c23
  · refine lm_tableIn (C d0) (23 : Int32) (off := 777) (tgt := 809) dL_law_32 c23 (by decide) (by decide) (by decide) (by decide) ?_
    obtain ⟨r, h', μ', F6, F7, hR'⟩ := b_save hk hR 
    exact law_save (C d0) (hA d0) hX hbl hL hi F6 F7 (K d0 h' μ' hd0 hR')
  rcases Classical.em (v = (24 : Int32)) with c24 | c24
  · refine lm_tableIn (C d0) (24 : Int32) (off := 790) (tgt := 822) dL_law_32 c24 (by decide) (by decide) (by decide) (by decide) ?_
    obtain ⟨r, h', μ', F6, F7, hR'⟩ := b_restore hk hR 
    exact law_restore (C d0) (hA d0) hX hbl hL hi F6 F7 (K d0 h' μ' hd0 hR')
  refine lm_tableOut (C d0) (tgt := 835) dL_law_32 (by have nc0 := lv_neT c0 (a := 0) (by decide); have nc1 := lv_neT c1 (a := 1) (by decide); have nc2 := lv_neT c2 (a := 2) (by decide); have nc3 := lv_neT c3 (a := 3) (by decide); have nc4 := lv_neT c4 (a := 4) (by decide); have nc5 := lv_neT c5 (a := 5) (by decide); have nc6 := lv_neT c6 (a := 6) (by decide); have nc7 := lv_neT c7 (a := 7) (by decide); have nc8 := lv_neT c8 (a := 8) (by decide); have nc9 := lv_neT c9 (a := 9) (by decide); have nc10 := lv_neT c10 (a := 10) (by decide); have nc11 := lv_neT c11 (a := 11) (by decide); have nc12 := lv_neT c12 (a := 12) (by decide); have nc13 := lv_neT c13 (a := 13) (by decide); have nc14 := lv_neT c14 (a := 14) (by decide); have nc15 := lv_neT c15 (a := 15) (by decide); have nc16 := lv_neT c16 (a := 16) (by decide); have nc17 := lv_neT c17 (a := 17) (by decide); have nc18 := lv_neT c18 (a := 18) (by decide); have nc19 := lv_neT c19 (a := 19) (by decide); have nc20 := lv_neT c20 (a := 20) (by decide); have nc21 := lv_neT c21 (a := 21) (by decide); have nc22 := lv_neT c22 (a := 22) (by decide); have nc23 := lv_neT c23 (a := 23) (by decide); have nc24 := lv_neT c24 (a := 24) (by decide); omega) (by decide) ?_
  exact K d0 h μ hd0 hU
end LL1
section LL2
variable {p : Program} {l : Launch} {e : Env} {s : State} {m : MethodId} {below : List Frame} {meth : Method} {c : Code} {D : va_G} {z zo : ClassId} {b L : Nat} {xs : Nat → Int32} {mm am : Nat → Nat} {aa : Nat → Nat → Nat}
set_option maxRecDepth 100000 in
set_option maxHeartbeats 4000000 in
theorem law_loop (C : ∀ d, law_Cx p s m b c D z zo d) (hA : ∀ d, lm_AZ (fun q : Nat => s.heap.size ≤ q) (s.setDrawn d)) (hX : va_X b L xs s s.heap) (hbl : b < s.heap.size) (hL : L ≤ 2048) (hr : meth.sig.returnType = ret) (hlocks : meth.locks = false) : ∀ (d k : Nat) (d0 : Drawn) (h : Nat → Hp) (μ : Hp), k + d = L / 4 → s.drawn.sameBut d0 lw_cs → GR k h μ → law_St p l e s m b below meth c D (lw_Z below #[Value.ref b] s) d0 (mdW z am μ ++ lmW z zo mm aa h) 18 (law_lv mm am b (4 * k)) [] := by
  intro d
  induction d with
  | zero =>
    intro k d0 h μ hd hd0 hR
    refine lm_iload_n (C d0) dL_law_18 rfl 0 rfl rfl ?_
    refine lm_aload_n (C d0) dL_law_19 rfl 3 rfl rfl ?_
    refine lm_slen (C d0) hX hbl (Nat.not_le.mpr hbl) dL_law_20 rfl ?_
    refine lm_iconst (C d0) (v := (4 : Int32)) dL_law_21 (by decide) rfl ?_
    refine lm_isub (C d0) (v := nI L - 4) dL_law_22 rfl rfl ?_
    refine lm_icmp_gt (C d0) (tgt := 841) dL_law_23 (by decide) rfl (fun _ => ?_) (fun c1 => ?_)
    · refine lm_iconst (C d0) (v := (1 : Int32)) dL_law_841 (by decide) rfl ?_
      intro H locs ls hI hL'
      refine va_forget (fun q hq => (hI.2.2 rfl).2.2.2 q hq) ?_
      refine W.widen (k := 600000) (n := 7302250) (Nat.le_of_ble_eq_true rfl) (Nat.le_of_ble_eq_true rfl) ?_
      exact lw_ret hd0 (C d0).1 (C d0).2.1 hr hlocks dL_law_842
    · exfalso
      apply c1
      by_cases q : 4 ≤ L
      · rw [ev_k4, pk_sub q]
        exact nI_lt (by omega) (by omega)
      · have : k = 0 := by omega
        subst this
        have : L = 0 ∨ L = 1 ∨ L = 2 ∨ L = 3 := by omega
        rcases this with q | q | q | q <;> subst q <;> decide
  | succ d ih =>
    intro k d0 h μ hd hd0 hR
    have hi : 4 * k + 4 ≤ L := by omega
    refine lm_iload_n (C d0) dL_law_18 rfl 0 rfl rfl ?_
    refine lm_aload_n (C d0) dL_law_19 rfl 3 rfl rfl ?_
    refine lm_slen (C d0) hX hbl (Nat.not_le.mpr hbl) dL_law_20 rfl ?_
    refine lm_iconst (C d0) (v := (4 : Int32)) dL_law_21 (by decide) rfl ?_
    refine lm_isub (C d0) (v := nI L - 4) dL_law_22 rfl rfl ?_
    refine lm_icmp_gt (C d0) (tgt := 841) dL_law_23 (by decide) rfl (fun c1 => ?_) (fun _ => ?_)
    · exfalso
      rw [ev_k4, pk_sub (by omega)] at c1
      exact nI_nlt (a := L - 4) (b := 4 * k) (by omega) (by omega) c1
    · refine law_body C hA hX hbl hL hi hd0 hR (fun d1 h' μ' hd1 hR' => ?_)
      refine lm_iinc (lv' := law_lv mm am b (4 * (k + 1))) (C d1) (nI (4 * (k + 1))) dL_law_835 0 rfl (by rw [show Int32.ofInt 4 = nI 4 from by decide, nI_add]; rfl) (by decide) rfl [0, 1, 2, 3] rfl rfl ?_
      refine lm_goto (C d1) (tgt := 18) dL_law_838 (by decide) ?_
      exact ih (k + 1) d1 h' μ' (by omega) hd1 hR'
end LL2
