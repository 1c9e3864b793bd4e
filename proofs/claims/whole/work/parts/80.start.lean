/-! the beginning -/
def ct_g0 : Nat → Nat := fun j => if j = 0 then 12 else if j = 4 then 99 else 0
theorem ct_g (j : Nat) (a : j ≠ 0) (b : j ≠ 4) : ct_g0 j = 0 := by
  unfold ct_g0
  rw [if_neg a, if_neg b]
theorem GR_0 : GR 0 ct_h0 ct_m0 := by
  refine ⟨⟨ct_g0, 0, 0, fun _ => ct_g0, ⟨⟨⟨rfl, fun i hi => absurd hi (Nat.not_lt_zero i)⟩, ⟨rfl, fun i hi => absurd hi (Nat.not_lt_zero i)⟩, ⟨rfl, rfl⟩, fun j hj => ?_⟩, fun k hk => ⟨rfl, rfl, fun h => absurd h (Nat.lt_irrefl 0)⟩, fun j hj => ?_, ⟨0, fun _ => 0, fun _ => 0, rfl, Nat.zero_le _, fun k hk => ?_, fun j k hj hk h => ?_⟩⟩, fun j hj => ?_, ⟨⟨by decide, by decide, by decide, fun i hi => absurd hi (Nat.not_lt_zero i)⟩, ⟨by decide, by decide, fun i hi => absurd hi (Nat.not_lt_zero i)⟩, fun k hk => ?_, ⟨by decide, by decide, by decide⟩, by decide, by decide, by decide, by decide⟩, ⟨rfl, rfl, by omega, by omega, fun i hi => absurd hi (Nat.not_lt_zero i)⟩, ⟨rfl, by omega, fun i hi => absurd hi (Nat.not_lt_zero i)⟩, fun i hi => absurd hi (Nat.not_lt_zero i), rfl⟩, ⟨rfl, fun h => absurd rfl h⟩, ⟨fun _ => 0, 0, CP_0 rfl, RP_0 rfl⟩, Or.inl ⟨rfl, rfl⟩⟩
  · have : j = 0 ∨ j = 1 ∨ j = 2 ∨ j = 3 ∨ j = 4 := by omega
    rcases this with q | q | q | q | q <;> subst q <;> rfl
  · have : j = 0 ∨ j = 1 ∨ j = 2 ∨ j = 3 ∨ j = 4 ∨ j = 5 ∨ j = 6 := by omega
    rcases this with q | q | q | q | q | q | q <;> subst q <;> rfl
  · rw [ct_g (97 + k) (by omega) (by omega)]
    exact ⟨rfl, fun h => absurd h (Nat.lt_irrefl 0)⟩
  · rw [ct_g (97 + j) (by omega) (by omega)] at h
    exact absurd h (Nat.lt_irrefl 0)
  · by_cases q4 : j = 4
    · subst q4
      rfl
    · by_cases q0 : j = 0
      · subst q0
        rfl
      · rw [ct_g j q0 q4]
        show upd (upd (fun _ => 0) 0 12) 4 99 j = nI 0
        unfold upd
        simp only [q4, q0, if_false]
        rfl
  · rw [ct_g (97 + k) (by omega) (by omega)]
    exact ⟨Nat.zero_le _, fun h => absurd h (Nat.lt_irrefl 0)⟩
/-- a word of the tables, by its place -/
theorem lw_w {w : Cond} (i : Nat) (h : lw_tbl[i]? = some w) : w ∈ lw_tbl := List.mem_of_getElem? h
section ST1
variable {s : State} {b : Nat}
/-- the settings that nobody writes -/
theorem st_H (hts : ∀ w ∈ lw_tbl, w.before #[Value.ref b] s = true) (hgv : (Jvm.Cond.and given_1 narrow_1).before #[Value.ref b] s = true) {A : Nat → Prop} (hA : ∀ a : Nat, a < s.heap.size → ¬ A a) : ∃ t : Nat, va_Z RX4 "HIGHEST_SETTINGS" "[I" (.ref t) A s s.heap ∧ va_T .int t 5 (fun j => .int (lm_hsI j)) A s s.heap := by
  have hs := flat_of_before _ hgv
  obtain ⟨t, ht, hT⟩ := va_Tof (args := #[Value.ref b]) (s := s) (tm := .static "LoopMemo$State" "HIGHEST_SETTINGS" "[I") (ty := .int) (N := 5) (f := fun j => .int (lm_hsI j)) (A := A) (by decide) (hs (Cond.arrayOf (.static "LoopMemo$State" "HIGHEST_SETTINGS" "[I") .int) (by decide +kernel)) (va_eqt (hs (Cond.eq (.length (.static "LoopMemo$State" "HIGHEST_SETTINGS" "[I")) (.int 5)) (by decide +kernel)))
    (fun j hj => match j, hj with
      | 0, _ => va_eqt (hs (Cond.eq (.elem (.static "LoopMemo$State" "HIGHEST_SETTINGS" "[I") (.int 0)) (.int 60)) (by decide +kernel))
      | 1, _ => va_eqt (hs (Cond.eq (.elem (.static "LoopMemo$State" "HIGHEST_SETTINGS" "[I") (.int 1)) (.int 2)) (by decide +kernel))
      | 2, _ => va_eqt (hs (Cond.eq (.elem (.static "LoopMemo$State" "HIGHEST_SETTINGS" "[I") (.int 2)) (.int 2)) (by decide +kernel))
      | 3, _ => va_eqt (hs (Cond.eq (.elem (.static "LoopMemo$State" "HIGHEST_SETTINGS" "[I") (.int 3)) (.int 99)) (by decide +kernel))
      | 4, _ => va_eqt (hs (Cond.eq (.elem (.static "LoopMemo$State" "HIGHEST_SETTINGS" "[I") (.int 4)) (.int 99)) (by decide +kernel))
      | n + 5, h => absurd h (by omega)) hA
  exact ⟨t, va_Zref (hts (.laysStatic RX4 "HIGHEST_SETTINGS" "[I") (lw_w 465 (by decide +kernel))) (hts (.initialized RX4) (lw_w 55 (by decide +kernel))) ht hA, hT⟩
theorem st_F0 (hgv : (Jvm.Cond.and given_1 narrow_1).before #[Value.ref b] s = true) : (Term.length (.static "LoopMemo$State" "FIRST_SETTINGS" "[I")).eval #[Value.ref b] s none [] s = some (.int 5) := va_eqt (flat_of_before _ hgv (Cond.eq (.length (.static "LoopMemo$State" "FIRST_SETTINGS" "[I")) (.int 5)) (by decide +kernel))
theorem st_F (hts : ∀ w ∈ lw_tbl, w.before #[Value.ref b] s = true) (hgv : (Jvm.Cond.and given_1 narrow_1).before #[Value.ref b] s = true) {A : Nat → Prop} (hA : ∀ a : Nat, a < s.heap.size → ¬ A a) : ∃ t : Nat, va_Z RX4 "FIRST_SETTINGS" "[I" (.ref t) A s s.heap ∧ va_T .int t 5 (fun j => .int (lm_fsI j)) A s s.heap ∧ (Term.static "LoopMemo$State" "FIRST_SETTINGS" "[I").eval #[Value.ref b] s none [] s = some (.ref t) := by
  have hs := flat_of_before _ hgv
  obtain ⟨t, ht, hT⟩ := va_Tof (args := #[Value.ref b]) (s := s) (tm := .static "LoopMemo$State" "FIRST_SETTINGS" "[I") (ty := .int) (N := 5) (f := fun j => .int (lm_fsI j)) (A := A) (by decide) (hs (Cond.arrayOf (.static "LoopMemo$State" "FIRST_SETTINGS" "[I") .int) (by decide +kernel)) (st_F0 hgv)
    (fun j hj => match j, hj with
      | 0, _ => va_eqt (hs (Cond.eq (.elem (.static "LoopMemo$State" "FIRST_SETTINGS" "[I") (.int 0)) (.int 12)) (by decide +kernel))
      | 1, _ => va_eqt (hs (Cond.eq (.elem (.static "LoopMemo$State" "FIRST_SETTINGS" "[I") (.int 1)) (.int 0)) (by decide +kernel))
      | 2, _ => va_eqt (hs (Cond.eq (.elem (.static "LoopMemo$State" "FIRST_SETTINGS" "[I") (.int 2)) (.int 0)) (by decide +kernel))
      | 3, _ => va_eqt (hs (Cond.eq (.elem (.static "LoopMemo$State" "FIRST_SETTINGS" "[I") (.int 3)) (.int 0)) (by decide +kernel))
      | 4, _ => va_eqt (hs (Cond.eq (.elem (.static "LoopMemo$State" "FIRST_SETTINGS" "[I") (.int 4)) (.int 99)) (by decide +kernel))
      | n + 5, h => absurd h (by omega)) hA
  exact ⟨t, va_Zref (hts (.laysStatic RX4 "FIRST_SETTINGS" "[I") (lw_w 131 (by decide +kernel))) (hts (.initialized RX4) (lw_w 55 (by decide +kernel))) ht hA, hT, ht⟩
/-- its length is no more than told -/
theorem st_L {t : Nat} {cell : Cell} (hlen : (Term.length (.static "LoopMemo$State" "FIRST_SETTINGS" "[I")).eval #[Value.ref b] s none [] s = some (.int 5)) (ht : (Term.static "LoopMemo$State" "FIRST_SETTINGS" "[I").eval #[Value.ref b] s none [] s = some (.ref t)) (hc : s.heap[t]? = some cell) : cell.slots.size = 5 ∧ cell.vm ≠ .unknown ∧ cell.vm.isStatics = false := by
  obtain ⟨a, c2, h1, h2, h3⟩ := Term.length_spec hlen
  cases ht.symm.trans h1
  obtain ⟨g1, g2, g3, -⟩ := State.arrayAt?_spec h2
  cases hc.symm.trans g1
  refine ⟨?_, g2, g3⟩
  have hlt : cell.slots.size < 2 ^ 31 := by
    have e : (Term.length (.static "LoopMemo$State" "FIRST_SETTINGS" "[I")).eval #[Value.ref b] s none [] s = (if cell.slots.size < 2 ^ 31 then some (.int cell.slots.size.toInt32) else none) := by
      rw [Term.eval]
      simp only [ht, h2, Option.bind_eq_bind, Option.bind_some]
      rfl
    rw [e] at hlen
    by_cases q : cell.slots.size < 2 ^ 31
    · exact q
    · rw [if_neg q] at hlen
      cases hlen
  have e5 : nI 5 = nI cell.slots.size := Value.int.inj h3
  exact ((nI_eq (by omega) hlt).mp e5).symm
theorem st_Fs (hts : ∀ w ∈ lw_tbl, w.before #[Value.ref b] s = true) (hgv : (Jvm.Cond.and given_1 narrow_1).before #[Value.ref b] s = true) {z : ClassId} (hz : s.vm.findClass "[I" = some z) {A : Nat → Prop} (hA : ∀ a : Nat, a < s.heap.size → ¬ A a) : lm_Fs z A s s.heap := by
  obtain ⟨t, hZ, ⟨cell, h1, h2, h3, h4, h5, h6, h7⟩, ht⟩ := st_F hts hgv hA
  obtain ⟨l1, l2, l3⟩ := st_L (st_F0 hgv) ht h1
  obtain ⟨a, cz, c2, kz, e1, e2, e3, e4, e5, e6, -⟩ := Cond.exactly_spec (flat_of_before _ hgv (Cond.exactly (.static "LoopMemo$State" "FIRST_SETTINGS" "[I") "[I") (by decide +kernel))
  cases ht.symm.trans e1
  cases h1.symm.trans e3
  cases hz.symm.trans e2
  refine ⟨t, cell, hZ, h1, e6, l2, (fun k hk => by rw [hk] at l3; cases l3), ?_, h7⟩
  apply Array.ext_getElem?
  intro i
  by_cases q : i < 5
  · rw [h6 i q]
    exact (arrV_read z (fun j => .int (lm_fsI j)) q).symm
  · rw [Array.getElem?_eq_none (by omega), Array.getElem?_eq_none (by
      have : (vp_cell z (5, .inl lm_fsI)).slots.size = 5 := arrV_size _ _ _
      omega)]
theorem st_K (hts : ∀ w ∈ lw_tbl, w.before #[Value.ref b] s = true) : ∃ (D : va_G) (z zo : ClassId), va_K D vwCl (lm_tys z zo) s ∧ s.vm.findClass "[I" = some z := by
  obtain ⟨c0, i0, k0⟩ := u_known (C := RX0) (T := TX0) (N := 3) (n := 3) hts inX0 (hts (.instantiable RX0 3) (lw_w 96 (by decide +kernel)))
  obtain ⟨c1, i1, k1⟩ := u_known (C := RX1) (T := TX1) (N := 3) (n := 3) hts inX1 (hts (.instantiable RX1 3) (lw_w 165 (by decide +kernel)))
  obtain ⟨c2, i2, k2⟩ := u_known (C := RX2) (T := TX2) (N := 4) (n := 4) hts inX2 (hts (.instantiable RX2 4) (lw_w 112 (by decide +kernel)))
  obtain ⟨c3, i3, k3⟩ := u_known (C := RX3) (T := TX3) (N := 9) (n := 9) hts inX3 (hts (.instantiable RX3 9) (lw_w 184 (by decide +kernel)))
  obtain ⟨c4, i4, k4⟩ := u_known (C := RX4) (T := TX4) (N := 8) (n := 8) hts inX4 (hts (.instantiable RX4 8) (lw_w 73 (by decide +kernel)))
  obtain ⟨c5, i5, k5⟩ := u_known (C := RX5) (T := TX5) (N := 3) (n := 3) hts inX5 (hts (.instantiable RX5 3) (lw_w 79 (by decide +kernel)))
  obtain ⟨c6, i6, k6⟩ := u_known (C := RX6) (T := TX6) (N := 9) (n := 9) hts inX6 (hts (.instantiable RX6 9) (lw_w 65 (by decide +kernel)))
  obtain ⟨c7, i7, k7⟩ := u_known (C := RX7) (T := TX7) (N := 14) (n := 14) hts inX7 (hts (.instantiable RX7 14) (lw_w 700 (by decide +kernel)))
  obtain ⟨z, kz, comp, f1, f2, f3⟩ := Cond.arrayClass_spec (hts (.arrayClass .int) (lw_w 94 (by decide +kernel)))
  obtain ⟨como, zo, ko, g1, g2, g3, g4, g5⟩ := Cond.arrayOver_spec (hts (.arrayOver (.object "LoopMemo$State")) (lw_w 171 (by decide +kernel)))
  refine ⟨(fun k => match k with | 0 => c0 | 1 => c1 | 2 => c2 | 3 => c3 | 4 => c4 | 5 => c5 | 6 => c6 | _ => c7, fun k => match k with | 0 => i0 | 1 => i1 | 2 => i2 | 3 => i3 | 4 => i4 | 5 => i5 | 6 => i6 | _ => i7), z, zo, ⟨fun k q hq => ?_, fun k q hq => ?_⟩, f1⟩
  · match k, hq with
    | 0, hq => cases hq; exact k0
    | 1, hq => cases hq; exact k1
    | 2, hq => cases hq; exact k2
    | 3, hq => cases hq; exact k3
    | 4, hq => cases hq; exact k4
    | 5, hq => cases hq; exact k5
    | 6, hq => cases hq; exact k6
    | 7, hq => cases hq; exact k7
    | k + 8, hq => simp [vwCl] at hq
  · match k, hq with
    | 0, hq => cases hq; exact ⟨fun n zz => ⟨fun k h => (by cases h), kz, f2, comp, f3⟩, f1⟩
    | 1, hq => cases hq; exact ⟨fun n zz => ⟨fun k h => (by cases h), ko, g3, como, g4⟩, ko, como, g3, g4, g1, g5⟩
    | k + 2, hq => simp [lm_tys] at hq
theorem st_N (hts : ∀ w ∈ lw_tbl, w.before #[Value.ref b] s = true) : lm_NW s := by
  intro q hq
  rcases List.mem_cons.mp hq with rfl | hq
  · exact va_Nw.of rfl (hts (.methodLinkNest RX0 21 yX6_copyNumbers "LoopMemo") (lw_w 278 (by decide +kernel)))
  rcases List.mem_cons.mp hq with rfl | hq
  · exact va_Nw.of rfl (hts (.methodLinkNest RX2 21 yX6_copyNumbers "LoopMemo") (lw_w 283 (by decide +kernel)))
  rcases List.mem_cons.mp hq with rfl | hq
  · exact va_Nw.of rfl (hts (.methodLinkNest RX4 60 yX6_copyNumbers "LoopMemo") (lw_w 284 (by decide +kernel)))
  rcases List.mem_cons.mp hq with rfl | hq
  · exact va_Nw.of rfl (hts (.methodLinkNest RX5 18 yX6_copyNumbers "LoopMemo") (lw_w 265 (by decide +kernel)))
  rcases List.mem_cons.mp hq with rfl | hq
  · exact va_Nw.of rfl (hts (.methodLinkNest RX4 85 yX6_isRow "LoopMemo") (lw_w 289 (by decide +kernel)))
  exact absurd hq List.not_mem_nil
theorem st_W (hts : ∀ w ∈ lw_tbl, w.before #[Value.ref b] s = true) : lm_W2 s := ⟨va_Nw.of rfl (hts (.castable "[I" "java/lang/Cloneable") (lw_w 137 (by decide +kernel))), va_AO.of (hts (.arrayOver (.object "LoopMemo$State")) (lw_w 171 (by decide +kernel)))⟩
end ST1
set_option maxRecDepth 100000 in
set_option maxHeartbeats 4000000 in
theorem whole_start {p : Program} {e : Env} {s : State} {m : MethodId} {below : List Frame} {meth : Method} {c : Code} (l : Launch) (hflags : l.flags = flags0) {b L : Nat} {xs : Nat → Int32} (hL : L ≤ 2048) (C0 : lw_At p s m meth c b L xs) : W p l e room_1 s m #[Value.ref b] below meth c s.heap [] 0 0 (lw_Z below #[Value.ref b] s) (entryFrame m ([Value.ref b] : List Value).toArray 8) := by
  obtain ⟨hx, hb, hr, hml, hown, hts, hX, hbl, hlocks, hgv⟩ := id C0
  have hA1 : ∀ q : Nat, s.heap.size ≤ q → (fun q : Nat => s.heap.size ≤ q) q := fun _ h => h
  have hA2 : ∀ a : Nat, a < s.heap.size → ¬ (fun q : Nat => s.heap.size ≤ q) a := fun a h => Nat.not_le.mpr h
  obtain ⟨D, z, zo, hK, hz⟩ := st_K hts
  have hN := st_N hts
  have hW2 := st_W hts
  have hF := st_Fs hts hgv hz hA2
  obtain ⟨tF, hF1, hF2, -⟩ := st_F hts hgv hA2
  have hZs : lm_Zs (fun q : Nat => s.heap.size ≤ q) s s.heap := ⟨st_H hts hgv hA2, tF, hF1, hF2⟩
  have hts2 : ∀ w ∈ wsL_law, w.before #[Value.ref b] s = true := fun w h => hts w (wsL_law_in w h)
  have C : ∀ d, law_Cx p s m b c D z zo d := fun d => ⟨hx, hb, hml, hown, dr_words hts2 d, hK, hN⟩
  have hAZ : ∀ d, lm_AZ (fun q : Nat => s.heap.size ≤ q) (s.setDrawn d) := fun d => ⟨hA1, hZs⟩
  have hAF : lm_AF z (fun q : Nat => s.heap.size ≤ q) (s.setDrawn s.drawn) := ⟨hA1, hF, hW2⟩
  have hd0 := Drawn.sameBut.refl s.drawn lw_cs
  refine W.base ?_
  have hl := lv_entry ([.ref b] : List Value) (n := 8) (Nat.le_of_ble_eq_true rfl)
  rw [lg_entry_eq]
  have main : lm_St p l e room_1 (s.setDrawn s.drawn) m #[Value.ref b] below meth c D (fun q : Nat => s.heap.size ≤ q) 8 0 0 (lw_Z below #[Value.ref b] s) false [] 0 [(0, .ref b)] [] := by
    refine lm_new (C s.drawn) (ci := 6) (fs := [.null, .null, .null, .null, .null, .int 0, .int 0, .int 0, .int 0]) (T := TX6) (N := 9) (ce' := 1) (sl' := 9) hA1 inlX6 tyX6 tyX6_ok (by decide +kernel) (by decide +kernel) (by decide +kernel) rfl (fun j hj => match j, hj with | 0, _ => rfl | 1, _ => rfl | 2, _ => rfl | 3, _ => rfl | 4, _ => rfl | 5, _ => rfl | 6, _ => rfl | 7, _ => rfl | 8, _ => rfl | n + 9, h => absurd h (by omega)) rfl rfl rfl dL_law_0 rfl (fun q0 => ?_)
    refine lm_dup (C s.drawn) dL_law_3 rfl rfl ?_
    refine lm_callI (C s.drawn) (ce' := 141) (sl' := 1470) hAF (n_X6_init D z zo l) gL_law_X6_init rfl (by decide +kernel) (by decide +kernel) (by decide +kernel) rfl (by decide +kernel) ⟨Nat.le_of_ble_eq_true rfl, Nat.le_of_ble_eq_true rfl⟩ rfl rfl rfl (List.Perm.refl _) (Nat.le_of_ble_eq_true rfl) dL_law_4 rfl (fun u6 hu6 => ?_)
    subst hu6
    try dsimp only
    refine lm_astore_n (lv' := [(1, .ref (u6.1 0)), (0, .ref b)]) (C s.drawn) dL_law_7 rfl (by decide) rfl [0, 1] rfl rfl ?_
    refine lm_new (C s.drawn) (ci := 7) (fs := [.null, .null, .null, .null, .int 0, .int 0, .int 0, .null, .int 0, .int 0, .null, .int 0, .int 0, .null]) (T := TX7) (N := 14) (ce' := 142) (sl' := 1484) hA1 inlX7 tyX7 tyX7_ok (by decide +kernel) (by decide +kernel) (by decide +kernel) rfl (fun j hj => match j, hj with | 0, _ => rfl | 1, _ => rfl | 2, _ => rfl | 3, _ => rfl | 4, _ => rfl | 5, _ => rfl | 6, _ => rfl | 7, _ => rfl | 8, _ => rfl | 9, _ => rfl | 10, _ => rfl | 11, _ => rfl | 12, _ => rfl | 13, _ => rfl | n + 14, h => absurd h (by omega)) rfl rfl rfl dL_law_8 rfl (fun q7 => ?_)
    refine lm_dup (C s.drawn) dL_law_11 rfl rfl ?_
    refine lm_callI (C s.drawn) (ce' := 149) (sl' := 2560) hAF (n_X7_init D z zo l) gL_law_X7_init rfl (by decide +kernel) (by decide +kernel) (by decide +kernel) rfl (by decide +kernel) ⟨Nat.le_of_ble_eq_true rfl, Nat.le_of_ble_eq_true rfl⟩ rfl rfl rfl (List.Perm.refl _) (Nat.le_of_ble_eq_true rfl) dL_law_12 rfl (fun u7 hu7 => ?_)
    subst hu7
    try dsimp only
    refine lm_astore_n (lv' := [(2, .ref (u7 0)), (1, .ref (u6.1 0)), (0, .ref b)]) (C s.drawn) dL_law_15 rfl (by decide) rfl [0, 1, 2] rfl rfl ?_
    refine lm_iconst (C s.drawn) (v := (0 : Int32)) dL_law_16 (by decide) rfl ?_
    refine lm_istore_n (lv' := [(3, .int 0), (2, .ref (u7 0)), (1, .ref (u6.1 0)), (0, .ref b)]) (C s.drawn) dL_law_17 rfl (by decide) rfl [0, 1, 2, 3] rfl rfl ?_
    rw [List.append_nil]
    exact law_loop C hAZ hX hbl hL hr hlocks (L / 4) 0 s.drawn ct_h0 ct_m0 (by omega) hd0 GR_0
  exact main s.heap [] _ ⟨fun k q h => by simp at h, fun h => (by cases h), fun _ => ⟨⟨fun i j p q h => by simp at h, fun k q h => by simp at h⟩, va_S.rf⟩⟩ hl
