/-! the beginning -/
def ct_g0 : Nat → Nat := fun j => if j = 0 then 12 else if j = 4 then 99 else 0
theorem ct_g (j : Nat) (a : j ≠ 0) (b : j ≠ 4) : ct_g0 j = 0 := by
  unfold ct_g0
  rw [if_neg a, if_neg b]
theorem GC_0 {h : Nat → Hp} (h0 : h 0 = ct_s0) (h8 : h 8 = ct_z0) : GC 0 0 h ct_g0 := by
  refine ⟨0, 0, fun _ => ct_g0, ?_, ⟨⟨by decide, by decide, by decide, fun i hi => absurd hi (Nat.not_lt_zero i)⟩, ⟨by decide, by decide, fun i hi => absurd hi (Nat.not_lt_zero i)⟩, fun k hk => ?_, ⟨by decide, by decide, by decide⟩, by decide, by decide, by decide, by decide⟩, ⟨by rw [h8]; rfl, by rw [h8]; rfl, by omega, by omega, fun i hi => absurd hi (Nat.not_lt_zero i)⟩, fun i hi => absurd hi (Nat.not_lt_zero i)⟩
  · rw [h0]
    refine ⟨⟨⟨rfl, fun i hi => absurd hi (Nat.not_lt_zero i)⟩, ⟨rfl, fun i hi => absurd hi (Nat.not_lt_zero i)⟩, ⟨rfl, rfl⟩, fun j hj => ?_⟩, fun k hk => ⟨rfl, rfl, fun h => absurd h (Nat.lt_irrefl 0)⟩, fun j hj => ?_, ⟨0, fun _ => 0, fun _ => 0, rfl, Nat.zero_le _, fun k hk => ?_, fun j k hj hk h => ?_⟩⟩
    · have : j = 0 ∨ j = 1 ∨ j = 2 ∨ j = 3 ∨ j = 4 := by omega
      rcases this with q | q | q | q | q <;> subst q <;> rfl
    · have : j = 0 ∨ j = 1 ∨ j = 2 ∨ j = 3 ∨ j = 4 ∨ j = 5 ∨ j = 6 := by omega
      rcases this with q | q | q | q | q | q | q <;> subst q <;> rfl
    · rw [ct_g (97 + k) (by omega) (by omega)]
      exact ⟨rfl, fun h => absurd h (Nat.lt_irrefl 0)⟩
    · rw [ct_g (97 + j) (by omega) (by omega)] at h
      exact absurd h (Nat.lt_irrefl 0)
  · rw [ct_g (97 + k) (by omega) (by omega)]
    exact ⟨Nat.zero_le _, fun h => absurd h (Nat.lt_irrefl 0)⟩
/-- the law's arrays as they are first -/
def lw_s0 : Hp := fun c => if c = 0 then upd (upd (fun _ => 0) 0 12) 4 99 else if c = 3 ∨ c = 4 then fun _ => -1 else fun _ => 0
theorem LR_0 {σ : Hp} (e0 : σ 0 = upd (upd (fun _ => 0) 0 12) 4 99) (e1 : ∀ j, σ 1 j = 0) (e2 : ∀ j, σ 2 j = 0) (e3 : ∀ j, j < 10 → σ 3 j = -1) (e4 : ∀ j, j < 10 → σ 4 j = -1) : LR σ ct_g0 := by
  refine ⟨[], [], fun j hj => ?_, fun j hj => ?_, ⟨Nat.zero_le _, fun k hk => absurd hk List.not_mem_nil, fun i hi => e3 i hi⟩, ⟨Nat.zero_le _, fun k hk => absurd hk List.not_mem_nil, fun i hi => e4 i hi⟩, fun k hk hg => ?_, ⟨fun k => Iff.rfl, List.Pairwise.nil, List.Pairwise.nil⟩, fun k => ?_⟩
  · rw [e0]
    by_cases q4 : j = 4
    · subst q4
      rfl
    · by_cases q0 : j = 0
      · subst q0
        rfl
      · rw [ct_g j q0 q4]
        show upd (upd (fun _ => 0) 0 12) 4 99 j = nI 0
        unfold upd
        simp only [q4, q0, if_false]
        rfl
  · rw [e1, e2, ct_g _ (by omega) (by omega), ct_g _ (by omega) (by omega)]
    exact ⟨rfl, rfl⟩
  · rw [ct_g (97 + k) (by omega) (by omega)] at hg
    exact absurd hg (Nat.lt_irrefl 0)
  · constructor
    · intro q
      exact absurd q List.not_mem_nil
    · intro q
      rw [ct_g (97 + k) (by omega) (by omega)] at q
      exact absurd q.2 (Nat.lt_irrefl 0)
/-- a word of the tables, by its place -/
theorem lw_w {w : Cond} (i : Nat) (h : lw_tbl[i]? = some w) : w ∈ lw_tbl := List.mem_of_getElem? h
section ST1
variable {s : State} {b : Nat}
/-- the settings that nobody writes -/
theorem st_H (hts : ∀ w ∈ lw_tbl, w.before #[Value.ref b] s = true) (hgv : (Jvm.Cond.and given_1 narrow_1).before #[Value.ref b] s = true) {A : Nat → Prop} (hA : ∀ a : Nat, a < s.heap.size → ¬ A a) : ∃ t : Nat, va_Z RX4 "HIGHEST_SETTINGS" "[I" (.ref t) A s s.heap ∧ va_T .int t 5 (fun j => .int (lm_hsI j)) A s s.heap := by
  have hs := flat_of_before _ hgv
  obtain ⟨t, ht, hT⟩ := va_Tof (args := #[Value.ref b]) (s := s) (tm := .static "LoopMemo$State" "HIGHEST_SETTINGS" "[I") (ty := .int) (N := 5) (f := fun j => .int (lm_hsI j)) (A := A) (by decide) (hs (Cond.arrayOf (.static "LoopMemo$State" "HIGHEST_SETTINGS" "[I") .int) (by decide +kernel)) (va_eqt (hs (Cond.eq (.length (.static "LoopMemo$State" "HIGHEST_SETTINGS" "[I")) (.int 5)) (by decide +kernel)))
    (fun j hj => match j, hj with
      | 0, _ => va_eqt (hs (Cond.eq (.elem (.static "LoopMemo$State" "HIGHEST_SETTINGS" "[I") (.int 0)) (.int 60)) (by decide +kernel))
      | 1, _ => va_eqt (hs (Cond.eq (.elem (.static "LoopMemo$State" "HIGHEST_SETTINGS" "[I") (.int 1)) (.int 2)) (by decide +kernel))
      | 2, _ => va_eqt (hs (Cond.eq (.elem (.static "LoopMemo$State" "HIGHEST_SETTINGS" "[I") (.int 2)) (.int 2)) (by decide +kernel))
      | 3, _ => va_eqt (hs (Cond.eq (.elem (.static "LoopMemo$State" "HIGHEST_SETTINGS" "[I") (.int 3)) (.int 99)) (by decide +kernel))
      | 4, _ => va_eqt (hs (Cond.eq (.elem (.static "LoopMemo$State" "HIGHEST_SETTINGS" "[I") (.int 4)) (.int 99)) (by decide +kernel))
      | n + 5, h => absurd h (by omega)) hA
  exact ⟨t, va_Zref (hts (.laysStatic RX4 "HIGHEST_SETTINGS" "[I") (lw_w 557 (by decide +kernel))) (hts (.initialized RX4) (lw_w 10 (by decide +kernel))) ht hA, hT⟩
theorem st_F0 (hgv : (Jvm.Cond.and given_1 narrow_1).before #[Value.ref b] s = true) : (Term.length (.static "LoopMemo$State" "FIRST_SETTINGS" "[I")).eval #[Value.ref b] s none [] s = some (.int 5) := va_eqt (flat_of_before _ hgv (Cond.eq (.length (.static "LoopMemo$State" "FIRST_SETTINGS" "[I")) (.int 5)) (by decide +kernel))
theorem st_F (hts : ∀ w ∈ lw_tbl, w.before #[Value.ref b] s = true) (hgv : (Jvm.Cond.and given_1 narrow_1).before #[Value.ref b] s = true) {A : Nat → Prop} (hA : ∀ a : Nat, a < s.heap.size → ¬ A a) : ∃ t : Nat, va_Z RX4 "FIRST_SETTINGS" "[I" (.ref t) A s s.heap ∧ va_T .int t 5 (fun j => .int (lm_fsI j)) A s s.heap ∧ (Term.static "LoopMemo$State" "FIRST_SETTINGS" "[I").eval #[Value.ref b] s none [] s = some (.ref t) := by
  have hs := flat_of_before _ hgv
  obtain ⟨t, ht, hT⟩ := va_Tof (args := #[Value.ref b]) (s := s) (tm := .static "LoopMemo$State" "FIRST_SETTINGS" "[I") (ty := .int) (N := 5) (f := fun j => .int (lm_fsI j)) (A := A) (by decide) (hs (Cond.arrayOf (.static "LoopMemo$State" "FIRST_SETTINGS" "[I") .int) (by decide +kernel)) (st_F0 hgv)
    (fun j hj => match j, hj with
      | 0, _ => va_eqt (hs (Cond.eq (.elem (.static "LoopMemo$State" "FIRST_SETTINGS" "[I") (.int 0)) (.int 12)) (by decide +kernel))
      | 1, _ => va_eqt (hs (Cond.eq (.elem (.static "LoopMemo$State" "FIRST_SETTINGS" "[I") (.int 1)) (.int 0)) (by decide +kernel))
      | 2, _ => va_eqt (hs (Cond.eq (.elem (.static "LoopMemo$State" "FIRST_SETTINGS" "[I") (.int 2)) (.int 0)) (by decide +kernel))
      | 3, _ => va_eqt (hs (Cond.eq (.elem (.static "LoopMemo$State" "FIRST_SETTINGS" "[I") (.int 3)) (.int 0)) (by decide +kernel))
      | 4, _ => va_eqt (hs (Cond.eq (.elem (.static "LoopMemo$State" "FIRST_SETTINGS" "[I") (.int 4)) (.int 99)) (by decide +kernel))
      | n + 5, h => absurd h (by omega)) hA
  exact ⟨t, va_Zref (hts (.laysStatic RX4 "FIRST_SETTINGS" "[I") (lw_w 85 (by decide +kernel))) (hts (.initialized RX4) (lw_w 10 (by decide +kernel))) ht hA, hT, ht⟩
/-- its length is no more than told -/
theorem st_L {t : Nat} {cell : Cell} (hlen : (Term.length (.static "LoopMemo$State" "FIRST_SETTINGS" "[I")).eval #[Value.ref b] s none [] s = some (.int 5)) (ht : (Term.static "LoopMemo$State" "FIRST_SETTINGS" "[I").eval #[Value.ref b] s none [] s = some (.ref t)) (hc : s.heap[t]? = some cell) : cell.slots.size = 5 ∧ cell.vm ≠ .unknown ∧ cell.vm.isStatics = false := by
  obtain ⟨a, c2, h1, h2, h3⟩ := Term.length_spec hlen
  cases ht.symm.trans h1
  obtain ⟨g1, g2, g3, -⟩ := State.arrayAt?_spec h2
  cases hc.symm.trans g1
  refine ⟨?_, g2, g3⟩
  have hlt : cell.slots.size < 2 ^ 31 := by
    have e : (Term.length (.static "LoopMemo$State" "FIRST_SETTINGS" "[I")).eval #[Value.ref b] s none [] s = (if cell.slots.size < 2 ^ 31 then some (.int cell.slots.size.toInt32) else none) := by
      rw [Term.eval]
      simp only [ht, h2, Option.bind_eq_bind, Option.bind_some]
      rfl
    rw [e] at hlen
    by_cases q : cell.slots.size < 2 ^ 31
    · exact q
    · rw [if_neg q] at hlen
      cases hlen
  have e5 : nI 5 = nI cell.slots.size := Value.int.inj h3
  exact ((nI_eq (by omega) hlt).mp e5).symm
theorem st_Fs (hts : ∀ w ∈ lw_tbl, w.before #[Value.ref b] s = true) (hgv : (Jvm.Cond.and given_1 narrow_1).before #[Value.ref b] s = true) {z : ClassId} (hz : s.vm.findClass "[I" = some z) {A : Nat → Prop} (hA : ∀ a : Nat, a < s.heap.size → ¬ A a) : lm_Fs z A s s.heap := by
  obtain ⟨t, hZ, ⟨cell, h1, h2, h3, h4, h5, h6, h7⟩, ht⟩ := st_F hts hgv hA
  obtain ⟨l1, l2, l3⟩ := st_L (st_F0 hgv) ht h1
  obtain ⟨a, cz, c2, kz, e1, e2, e3, e4, e5, e6, -⟩ := Cond.exactly_spec (flat_of_before _ hgv (Cond.exactly (.static "LoopMemo$State" "FIRST_SETTINGS" "[I") "[I") (by decide +kernel))
  cases ht.symm.trans e1
  cases h1.symm.trans e3
  cases hz.symm.trans e2
  refine ⟨t, cell, hZ, h1, e6, l2, (fun k hk => by rw [hk] at l3; cases l3), ?_, h7⟩
  apply Array.ext_getElem?
  intro i
  by_cases q : i < 5
  · rw [h6 i q]
    exact (arrV_read z (fun j => .int (lm_fsI j)) q).symm
  · rw [Array.getElem?_eq_none (by omega), Array.getElem?_eq_none (by
      have : (vp_cell z (5, .inl lm_fsI)).slots.size = 5 := arrV_size _ _ _
      omega)]
theorem st_K (hts : ∀ w ∈ lw_tbl, w.before #[Value.ref b] s = true) : ∃ (D : va_G) (z zo : ClassId), va_K D vwCl (lm_tys z zo) s ∧ s.vm.findClass "[I" = some z := by
  obtain ⟨c0, i0, k0⟩ := u_known (C := RX0) (T := TX0) (N := 3) (n := 3) hts inX0 (hts (.instantiable RX0 3) (lw_w 50 (by decide +kernel)))
  obtain ⟨c1, i1, k1⟩ := u_known (C := RX1) (T := TX1) (N := 3) (n := 3) hts inX1 (hts (.instantiable RX1 3) (lw_w 119 (by decide +kernel)))
  obtain ⟨c2, i2, k2⟩ := u_known (C := RX2) (T := TX2) (N := 4) (n := 4) hts inX2 (hts (.instantiable RX2 4) (lw_w 66 (by decide +kernel)))
  obtain ⟨c3, i3, k3⟩ := u_known (C := RX3) (T := TX3) (N := 9) (n := 9) hts inX3 (hts (.instantiable RX3 9) (lw_w 138 (by decide +kernel)))
  obtain ⟨c4, i4, k4⟩ := u_known (C := RX4) (T := TX4) (N := 8) (n := 8) hts inX4 (hts (.instantiable RX4 8) (lw_w 27 (by decide +kernel)))
  obtain ⟨c5, i5, k5⟩ := u_known (C := RX5) (T := TX5) (N := 3) (n := 3) hts inX5 (hts (.instantiable RX5 3) (lw_w 33 (by decide +kernel)))
  obtain ⟨c6, i6, k6⟩ := u_known (C := RX6) (T := TX6) (N := 9) (n := 9) hts inX6 (hts (.instantiable RX6 9) (lw_w 19 (by decide +kernel)))
  obtain ⟨z, kz, comp, f1, f2, f3⟩ := Cond.arrayClass_spec (hts (.arrayClass .int) (lw_w 48 (by decide +kernel)))
  obtain ⟨como, zo, ko, g1, g2, g3, g4, g5⟩ := Cond.arrayOver_spec (hts (.arrayOver (.object "LoopMemo$State")) (lw_w 125 (by decide +kernel)))
  refine ⟨(fun k => match k with | 0 => c0 | 1 => c1 | 2 => c2 | 3 => c3 | 4 => c4 | 5 => c5 | _ => c6, fun k => match k with | 0 => i0 | 1 => i1 | 2 => i2 | 3 => i3 | 4 => i4 | 5 => i5 | _ => i6), z, zo, ⟨fun k q hq => ?_, fun k q hq => ?_⟩, f1⟩
  · match k, hq with
    | 0, hq => cases hq; exact k0
    | 1, hq => cases hq; exact k1
    | 2, hq => cases hq; exact k2
    | 3, hq => cases hq; exact k3
    | 4, hq => cases hq; exact k4
    | 5, hq => cases hq; exact k5
    | 6, hq => cases hq; exact k6
    | k + 7, hq => simp [vwCl] at hq
  · match k, hq with
    | 0, hq => cases hq; exact ⟨fun n zz => ⟨fun k h => (by cases h), kz, f2, comp, f3⟩, f1⟩
    | 1, hq => cases hq; exact ⟨fun n zz => ⟨fun k h => (by cases h), ko, g3, como, g4⟩, ko, como, g3, g4, g1, g5⟩
    | k + 2, hq => simp [lm_tys] at hq
theorem st_N (hts : ∀ w ∈ lw_tbl, w.before #[Value.ref b] s = true) : lm_NW s := by
  intro q hq
  rcases List.mem_cons.mp hq with rfl | hq
  · exact va_Nw.of rfl (hts (.methodLinkNest RX0 21 yX6_copyNumbers "LoopMemo") (lw_w 398 (by decide +kernel)))
  rcases List.mem_cons.mp hq with rfl | hq
  · exact va_Nw.of rfl (hts (.methodLinkNest RX2 21 yX6_copyNumbers "LoopMemo") (lw_w 403 (by decide +kernel)))
  rcases List.mem_cons.mp hq with rfl | hq
  · exact va_Nw.of rfl (hts (.methodLinkNest RX4 60 yX6_copyNumbers "LoopMemo") (lw_w 404 (by decide +kernel)))
  rcases List.mem_cons.mp hq with rfl | hq
  · exact va_Nw.of rfl (hts (.methodLinkNest RX5 18 yX6_copyNumbers "LoopMemo") (lw_w 385 (by decide +kernel)))
  rcases List.mem_cons.mp hq with rfl | hq
  · exact va_Nw.of rfl (hts (.methodLinkNest RX4 85 yX6_isRow "LoopMemo") (lw_w 409 (by decide +kernel)))
  exact absurd hq List.not_mem_nil
theorem st_W (hts : ∀ w ∈ lw_tbl, w.before #[Value.ref b] s = true) : lm_W2 s := ⟨va_Nw.of rfl (hts (.castable "[I" "java/lang/Cloneable") (lw_w 91 (by decide +kernel))), va_AO.of (hts (.arrayOver (.object "LoopMemo$State")) (lw_w 125 (by decide +kernel)))⟩
end ST1
section ST2
variable {p : Program} {l : Launch} {e : Env} {s : State} {m : MethodId} {below : List Frame} {meth : Method} {c : Code} {D : va_G} {z zo : ClassId} {b : Nat} {mm bb : Nat → Nat} {aa : Nat → Nat → Nat}
set_option maxRecDepth 100000 in
set_option maxHeartbeats 8000000 in
/-- the rows of keys are emptied -/
theorem law_fill (C : law_Cx p s m b c D z zo) {h0 : Nat → Hp} (K : ∀ h', (∀ q, q ≠ 9 → h' q = h0 q) → (∀ q, q ≠ 3 → q ≠ 4 → h' 9 q = h0 9 q) → (∀ j, j < 10 → h' 9 3 j = -1 ∧ h' 9 4 j = -1) → law_St p l e s m b below meth c D 0 (lwMW z zo mm aa bb h') 80 (law_lv mm bb b 10) []) : ∀ (d k : Nat) (h : Nat → Hp), k + d = 10 → (∀ q, q ≠ 9 → h q = h0 q) → (∀ q, q ≠ 3 → q ≠ 4 → h 9 q = h0 9 q) → (∀ j, j < k → h 9 3 j = -1 ∧ h 9 4 j = -1) → law_St p l e s m b below meth c D 0 (lwMW z zo mm aa bb h) 55 (law_lv mm bb b k) [] := by
  intro d
  induction d with
  | zero =>
    intro k h hk e1 e2 e3
    have hk10 : k = 10 := by omega
    subst hk10
    refine lm_iload C dL_law_55 8 rfl rfl ?_
    refine lm_bipush C (v := (10 : Int32)) dL_law_57 (by decide) rfl ?_
    refine lm_icmp_ge C (tgt := 80) dL_law_59 (by decide) rfl (fun _ => ?_) (fun c1 => absurd (by decide) c1)
    exact K h e1 e2 e3
  | succ d ih =>
    intro k h hk e1 e2 e3
    have cl : (nI k).toNatClampNeg = k := nI_clamp (by omega)
    refine lm_iload C dL_law_55 8 rfl rfl ?_
    refine lm_bipush C (v := (10 : Int32)) dL_law_57 (by decide) rfl ?_
    refine lm_icmp_ge C (tgt := 80) dL_law_59 (by decide) rfl (fun c1 => absurd c1 (show ¬ (10 : Int32) ≤ nI k from nI_ge (b := 10) (by omega) (by omega))) (fun _ => ?_)
    refine lm_aload C dL_law_62 5 rfl rfl ?_
    refine lm_iload C dL_law_64 8 rfl rfl ?_
    refine lm_iconst C (v := (-1 : Int32)) dL_law_66 (by decide) rfl ?_
    refine lm_iast C (w' := lwMW z zo mm aa bb (lm_uB h 9 (lm_u (h 9) 3 (nI k).toNatClampNeg (-1)))) 144 rfl (vp_in_nI (by omega) (by omega)) dL_law_67 rfl rfl ?_
    refine lm_aload C dL_law_68 6 rfl rfl ?_
    refine lm_iload C dL_law_70 8 rfl rfl ?_
    refine lm_iconst C (v := (-1 : Int32)) dL_law_72 (by decide) rfl ?_
    refine lm_iast C (w' := lwMW z zo mm aa bb (lm_uB h 9 (lm_u (lm_u (h 9) 3 (nI k).toNatClampNeg (-1)) 4 (nI k).toNatClampNeg (-1)))) 145 rfl (vp_in_nI (by omega) (by omega)) dL_law_73 rfl rfl ?_
    refine lm_iinc C (lv' := law_lv mm bb b (k + 1)) (nI (k + 1)) dL_law_74 8 rfl (by rw [show Int32.ofInt 1 = nI 1 from by decide, nI_add]) (by decide) rfl [1, 2, 3, 4, 5, 6, 7, 8, 0] rfl rfl ?_
    refine lm_goto C (tgt := 55) dL_law_77 (by decide) ?_
    rw [cl]
    refine ih (k + 1) _ (by omega) (fun q hq => by rw [uB_ne _ _ hq]; exact e1 q hq) (fun q h3 h4 => by rw [uB_same, lu_c _ _ _ h4, lu_c _ _ _ h3]; exact e2 q h3 h4) (fun j hj => ?_)
    rw [uB_same]
    by_cases q : j = k
    · subst q
      exact ⟨by rw [lu_c _ _ _ (by omega), lu_same], by rw [lu_same]⟩
    · exact ⟨by rw [lu_c _ _ _ (by omega), lu_ne _ _ q]; exact (e3 j (by omega)).1, by rw [lu_ne _ _ q, lu_c _ _ _ (by omega)]; exact (e3 j (by omega)).2⟩
end ST2
set_option maxRecDepth 100000 in
set_option maxHeartbeats 8000000 in
theorem whole_start {p : Program} {e : Env} {s : State} {m : MethodId} {below : List Frame} {meth : Method} {c : Code} (l : Launch) (hflags : l.flags = flags0) {b L : Nat} {xs : Nat → Int32} (hL : L ≤ 260) (C0 : lw_At p s m meth c b L xs) : W p l e room_1 s m #[Value.ref b] below meth c s.heap [] 0 0 (lw_Z below #[Value.ref b] s) (entryFrame m ([Value.ref b] : List Value).toArray 10) := by
  obtain ⟨hx, hb, hr, hml, hown, hts, hX, hbl, hlocks, hgv⟩ := id C0
  have hA1 : ∀ q : Nat, s.heap.size ≤ q → (fun q : Nat => s.heap.size ≤ q) q := fun _ h => h
  have hA2 : ∀ a : Nat, a < s.heap.size → ¬ (fun q : Nat => s.heap.size ≤ q) a := fun a h => Nat.not_le.mpr h
  obtain ⟨D, z, zo, hK, hz⟩ := st_K hts
  have hN := st_N hts
  have hW2 := st_W hts
  have hF := st_Fs hts hgv hz hA2
  obtain ⟨tF, hF1, hF2, -⟩ := st_F hts hgv hA2
  have hZs : lm_Zs (fun q : Nat => s.heap.size ≤ q) s s.heap := ⟨st_H hts hgv hA2, tF, hF1, hF2⟩
  have hts2 : ∀ w ∈ wsL_law, w.before #[Value.ref b] s = true := fun w h => hts w (wsL_law_in w h)
  have C : law_Cx p s m b c D z zo := ⟨hx, hb, hml, hown, dr_words hts2 s.drawn, hK, hN⟩
  have hAZ : lm_AZ (fun q : Nat => s.heap.size ≤ q) (s.setDrawn s.drawn) := ⟨hA1, hZs⟩
  have hAF : lm_AF z (fun q : Nat => s.heap.size ≤ q) (s.setDrawn s.drawn) := ⟨hA1, hF, hW2⟩
  refine W.base ?_
  have hl := lv_entry ([.ref b] : List Value) (n := 10) (Nat.le_of_ble_eq_true rfl)
  rw [lg_entry_eq]
  have harr : Cond.arrayClass .int ∈ wsL_law := List.mem_of_getElem? (i := 3) rfl
  have main : lm_St p l e room_1 (s.setDrawn s.drawn) m #[Value.ref b] below meth c D (fun q : Nat => s.heap.size ≤ q) 10 0 0 (lw_Z below #[Value.ref b] s) false [] 0 [(0, .ref b)] [] := by
    refine lm_new C (ci := 6) (fs := [.null, .null, .null, .null, .null, .int 0, .int 0, .int 0, .int 0]) (T := TX6) (N := 9) (ce' := 1) (sl' := 9) hA1 inlX6 tyX6 tyX6_ok (by decide +kernel) (by decide +kernel) (by decide +kernel) rfl (fun j hj => match j, hj with | 0, _ => rfl | 1, _ => rfl | 2, _ => rfl | 3, _ => rfl | 4, _ => rfl | 5, _ => rfl | 6, _ => rfl | 7, _ => rfl | 8, _ => rfl | n + 9, h => absurd h (by omega)) rfl rfl rfl dL_law_0 rfl (fun q0 => ?_)
    refine lm_dup C dL_law_3 rfl rfl ?_
    refine lm_callI C (ce' := 141) (sl' := 1470) hAF (n_X6_init D z zo l) gL_law_X6_init rfl (by decide +kernel) (by decide +kernel) (by decide +kernel) rfl (by decide +kernel) ⟨Nat.le_of_ble_eq_true rfl, Nat.le_of_ble_eq_true rfl⟩ rfl rfl rfl (List.Perm.refl _) (Nat.le_of_ble_eq_true rfl) dL_law_4 rfl (fun u6 hu6 => ?_)
    subst hu6
    try dsimp only
    rw [List.append_nil]
    refine lm_astore_n (lv' := [(0, .ref b), (1, .ref (u6.1 0))]) C dL_law_7 rfl (by decide) rfl [1, 0] rfl rfl ?_
    refine lm_bipush C (v := (16 : Int32)) dL_law_8 (by decide) rfl ?_
    refine lm_newa C hA1 harr (n := (16 : Int32)) (N := 16) (ce' := 142) (sl' := 1486) (by decide) rfl (by decide) rfl rfl rfl dL_law_10 rfl (fun t0 => ?_)
    refine lm_astore_n (lv' := [(0, .ref b), (1, .ref (u6.1 0)), (2, .ref t0)]) C dL_law_12 rfl (by decide) rfl [1, 2, 0] rfl rfl ?_
    refine lm_bipush C (v := (44 : Int32)) dL_law_13 (by decide) rfl ?_
    refine lm_newa C hA1 harr (n := (44 : Int32)) (N := 44) (ce' := 143) (sl' := 1530) (by decide) rfl (by decide) rfl rfl rfl dL_law_15 rfl (fun t1 => ?_)
    refine lm_astore_n (lv' := [(0, .ref b), (1, .ref (u6.1 0)), (2, .ref t0), (3, .ref t1)]) C dL_law_17 rfl (by decide) rfl [1, 2, 3, 0] rfl rfl ?_
    refine lm_bipush C (v := (44 : Int32)) dL_law_18 (by decide) rfl ?_
    refine lm_newa C hA1 harr (n := (44 : Int32)) (N := 44) (ce' := 144) (sl' := 1574) (by decide) rfl (by decide) rfl rfl rfl dL_law_20 rfl (fun t2 => ?_)
    refine lm_astore (lv' := [(0, .ref b), (1, .ref (u6.1 0)), (2, .ref t0), (3, .ref t1), (4, .ref t2)]) C dL_law_22 (by decide) rfl [1, 2, 3, 4, 0] rfl rfl ?_
    refine lm_bipush C (v := (10 : Int32)) dL_law_24 (by decide) rfl ?_
    refine lm_newa C hA1 harr (n := (10 : Int32)) (N := 10) (ce' := 145) (sl' := 1584) (by decide) rfl (by decide) rfl rfl rfl dL_law_26 rfl (fun t3 => ?_)
    refine lm_astore (lv' := [(0, .ref b), (1, .ref (u6.1 0)), (2, .ref t0), (3, .ref t1), (4, .ref t2), (5, .ref t3)]) C dL_law_28 (by decide) rfl [1, 2, 3, 4, 5, 0] rfl rfl ?_
    refine lm_bipush C (v := (10 : Int32)) dL_law_30 (by decide) rfl ?_
    refine lm_newa C hA1 harr (n := (10 : Int32)) (N := 10) (ce' := 146) (sl' := 1594) (by decide) rfl (by decide) rfl rfl rfl dL_law_32 rfl (fun t4 => ?_)
    refine lm_astore (lv' := [(0, .ref b), (1, .ref (u6.1 0)), (2, .ref t0), (3, .ref t1), (4, .ref t2), (5, .ref t3), (6, .ref t4)]) C dL_law_34 (by decide) rfl [1, 2, 3, 4, 5, 6, 0] rfl rfl ?_
    refine lm_bipush C (v := (10 : Int32)) dL_law_36 (by decide) rfl ?_
    refine lm_newa C hA1 harr (n := (10 : Int32)) (N := 10) (ce' := 147) (sl' := 1604) (by decide) rfl (by decide) rfl rfl rfl dL_law_38 rfl (fun t5 => ?_)
    refine lm_astore (lv' := [(0, .ref b), (1, .ref (u6.1 0)), (2, .ref t0), (3, .ref t1), (4, .ref t2), (5, .ref t3), (6, .ref t4), (7, .ref t5)]) C dL_law_40 (by decide) rfl [1, 2, 3, 4, 5, 6, 7, 0] rfl rfl ?_
    obtain ⟨bb, hbb⟩ : ∃ bb : Nat → Nat, bb = lm_l [t0, t1, t2, t3, t4, t5] := ⟨_, rfl⟩
    have b0 : t0 = bb 0 := by rw [hbb]; rfl
    have b1 : t1 = bb 1 := by rw [hbb]; rfl
    have b2 : t2 = bb 2 := by rw [hbb]; rfl
    have b3 : t3 = bb 3 := by rw [hbb]; rfl
    have b4 : t4 = bb 4 := by rw [hbb]; rfl
    have b5 : t5 = bb 5 := by rw [hbb]; rfl
    clear hbb
    subst b0 b1 b2 b3 b4 b5
    have hw : lwMW z zo u6.1 u6.2 bb (lm_uB ct_h0 9 ct_z0) = lmW z zo u6.1 u6.2 ct_h0 ++ [(bb 0, .inl (z, 16, .inl (fun _ => 0))), (bb 1, .inl (z, 44, .inl (fun _ => 0))), (bb 2, .inl (z, 44, .inl (fun _ => 0))), (bb 3, .inl (z, 10, .inl (fun _ => 0))), (bb 4, .inl (z, 10, .inl (fun _ => 0))), (bb 5, .inl (z, 10, .inl (fun _ => 0)))] := by
      unfold lwMW
      rw [lm_9, lw_9]
      rfl
    refine lm_perm (w' := lwMW z zo u6.1 u6.2 bb (lm_uB ct_h0 9 ct_z0)) (by
      rw [hw]
      refine lm_cnt fun f g h1 h2 h3 => ?_
      simp only [h1, h2, h3]
      omega) ?_
    show law_St p l e s m b below meth c D 0 (lwMW z zo u6.1 u6.2 bb (lm_uB ct_h0 9 ct_z0)) 42 [(0, .ref b), (1, .ref (u6.1 0)), (2, .ref (bb 0)), (3, .ref (bb 1)), (4, .ref (bb 2)), (5, .ref (bb 3)), (6, .ref (bb 4)), (7, .ref (bb 5))] []
    refine lm_aload_n C dL_law_42 rfl 2 rfl rfl ?_
    refine lm_iconst C (v := (0 : Int32)) dL_law_43 (by decide) rfl ?_
    refine lm_bipush C (v := (12 : Int32)) dL_law_44 (by decide) rfl ?_
    refine lm_iast C (w' := lwMW z zo u6.1 u6.2 bb (lm_uB ct_h0 9 (lm_u ct_z0 0 0 12))) 141 rfl (by unfold vp_in; decide) dL_law_46 rfl rfl ?_
    refine lm_aload_n C dL_law_47 rfl 2 rfl rfl ?_
    refine lm_iconst C (v := (4 : Int32)) dL_law_48 (by decide) rfl ?_
    refine lm_bipush C (v := (99 : Int32)) dL_law_49 (by decide) rfl ?_
    refine lm_iast C (w' := lwMW z zo u6.1 u6.2 bb (lm_uB ct_h0 9 (lm_u (lm_u ct_z0 0 0 12) 0 4 99))) 141 rfl (by unfold vp_in; decide) dL_law_51 rfl rfl ?_
    refine lm_iconst C (v := (0 : Int32)) dL_law_52 (by decide) rfl ?_
    refine lm_istore C (lv' := law_lv u6.1 bb b 0) dL_law_53 (by decide) rfl [1, 2, 3, 4, 5, 6, 7, 8, 0] rfl rfl ?_
    refine law_fill C (h0 := lm_uB ct_h0 9 (lm_u (lm_u ct_z0 0 0 12) 0 4 99)) (fun h' k1 k2 k3 => ?_) 10 0 _ (by omega) (fun q _ => rfl) (fun q _ _ => rfl) (fun j hj => absurd hj (Nat.not_lt_zero j))
    have hG : GC 0 0 h' ct_g0 := GC_0 (by rw [k1 0 (by omega), uB_ne _ _ (by omega)]; rfl) (by rw [k1 8 (by omega), uB_ne _ _ (by omega)]; rfl)
    have hLR : LR (h' 9) ct_g0 := LR_0 (by rw [k2 0 (by omega) (by omega), uB_same]; rfl) (fun j => by rw [k2 1 (by omega) (by omega), uB_same]; rfl) (fun j => by rw [k2 2 (by omega) (by omega), uB_same]; rfl) (fun j hj => (k3 j hj).1) (fun j hj => (k3 j hj).2)
    refine lm_iconst C (v := (0 : Int32)) dL_law_80 (by decide) rfl ?_
    refine lm_istore C (lv' := law_lv u6.1 bb b 0) dL_law_81 (by decide) rfl [1, 2, 3, 4, 5, 6, 7, 8, 0] rfl rfl ?_
    exact law_loop C hAZ hX hbl hL hr hlocks 62 0 h' (by omega) ⟨ct_g0, hG, hLR⟩
  exact main s.heap [] _ ⟨fun k q h => by simp at h, fun h => (by cases h), fun _ => ⟨⟨fun i j p q h => by simp at h, fun k q h => by simp at h⟩, va_S.rf⟩⟩ hl
