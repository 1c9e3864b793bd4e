/-! doubles: rows; the rate of both -/
section LD
variable {p : Program} {l : Launch} {e : Env} {R : Room} {s : State} {m : MethodId} {args : Array Value} {below : List Frame} {meth : Method} {c : Code} {D : va_G} {z zo : ClassId} {A : Nat → Prop} {nL ce sl : Nat} {Q : State → Prop} {own : String} {Ts : List Cond} {cc : ByteArray} {ro : Bool} {w w' : va_W} {pc pc' : Nat} {lv lv' : Lv} {st : List Value}
theorem lm_i2d (C : lm_Cx p s m args c D z zo nL own Ts cc) {x : Int32} (hd : decode cc pc = .ok (.i2d, 1)) (hpc : pc + 1 = pc') (K : lm_St p l e R s m args below meth c D A nL ce sl Q ro w pc' lv (.double (FP.i2d x) :: st)) : lm_St p l e R s m args below meth c D A nL ce sl Q ro w pc lv (.int x :: st) := by
  subst hpc
  exact fun H locs ls hI hL => lv_i2d C.1 C.2.1 hd (K H locs ls hI hL)
theorem lm_dconst0 (C : lm_Cx p s m args c D z zo nL own Ts cc) (hd : decode cc pc = .ok (.dconst 0, 1)) (hpc : pc + 1 = pc') (K : lm_St p l e R s m args below meth c D A nL ce sl Q ro w pc' lv (.double FP.dconst0 :: st)) : lm_St p l e R s m args below meth c D A nL ce sl Q ro w pc lv st := by
  subst hpc
  exact fun H locs ls hI hL => lv_dconst0 C.1 C.2.1 hd (K H locs ls hI hL)
theorem lm_dload_n (C : lm_Cx p s m args c D z zo nL own Ts cc) {k : _root_.Fin 4} {i : Nat} {x : UInt64} (hd : decode cc pc = .ok (.dload_n k, 1)) (hi : (k : Nat) = i) (q : Nat) (hl : lv[q]? = some (i, .double x)) (hpc : pc + 1 = pc') (K : lm_St p l e R s m args below meth c D A nL ce sl Q ro w pc' lv (.double x :: st)) : lm_St p l e R s m args below meth c D A nL ce sl Q ro w pc lv st := by
  subst hpc
  exact fun H locs ls hI hL => lv_dload_n C.1 C.2.1 hd hi (lv_at hL q hl) (K H locs ls hI hL)
theorem lm_dload (C : lm_Cx p s m args c D z zo nL own Ts cc) {i : Nat} {x : UInt64} (hd : decode cc pc = .ok (.dload i, 2)) (q : Nat) (hl : lv[q]? = some (i, .double x)) (hpc : pc + 2 = pc') (K : lm_St p l e R s m args below meth c D A nL ce sl Q ro w pc' lv (.double x :: st)) : lm_St p l e R s m args below meth c D A nL ce sl Q ro w pc lv st := by
  subst hpc
  exact fun H locs ls hI hL => lv_dload C.1 C.2.1 hd (lv_at hL q hl) (K H locs ls hI hL)
theorem lm_dstore_n (C : lm_Cx p s m args c D z zo nL own Ts cc) {k : _root_.Fin 4} {i : Nat} {x : UInt64} (hd : decode cc pc = .ok (.dstore_n k, 1)) (hi : (k : Nat) = i) (hn : i + 1 < nL) (hl : (i, Value.double x) :: lv.filter (fun q => !(q.1 == i) && (!(q.1 == i + 1) && !(q.1 + 1 == i && q.2.category == 2))) = lv') (hpc : pc + 1 = pc') (K : lm_St p l e R s m args below meth c D A nL ce sl Q ro w pc' lv' st) : lm_St p l e R s m args below meth c D A nL ce sl Q ro w pc lv (.double x :: st) := by
  subst hpc
  exact fun H locs ls hI hL => lv_dstore_n C.1 C.2.1 hd hi hL hn hl (fun ls' hl' => K H locs ls' hI hl')
theorem lm_dstore (C : lm_Cx p s m args c D z zo nL own Ts cc) {i : Nat} {x : UInt64} (hd : decode cc pc = .ok (.dstore i, 2)) (hn : i + 1 < nL) (hl : (i, Value.double x) :: lv.filter (fun q => !(q.1 == i) && (!(q.1 == i + 1) && !(q.1 + 1 == i && q.2.category == 2))) = lv') (hpc : pc + 2 = pc') (K : lm_St p l e R s m args below meth c D A nL ce sl Q ro w pc' lv' st) : lm_St p l e R s m args below meth c D A nL ce sl Q ro w pc lv (.double x :: st) := by
  subst hpc
  exact fun H locs ls hI hL => lv_dstore C.1 C.2.1 hd hL hn hl (fun ls' hl' => K H locs ls' hI hl')
theorem lm_dcmp (C : lm_Cx p s m args c D z zo nL own Ts cc) {x y : UInt64} {op : CmpOp} {v : Int32} (hd : decode cc pc = .ok (.dcmp op, 1)) (hv : Op.cmpValue (FP.dcmp x y) op = v) (hpc : pc + 1 = pc') (K : lm_St p l e R s m args below meth c D A nL ce sl Q ro w pc' lv (.int v :: st)) : lm_St p l e R s m args below meth c D A nL ce sl Q ro w pc lv (.double y :: .double x :: st) := by
  subst hpc hv
  exact fun H locs ls hI hL => lv_dcmp C.1 C.2.1 hd (K H locs ls hI hL)
def lm_QD (P : UInt64 → Prop) : Array Value → State → Outcome → State → Prop := fun _ st oc t => ∃ r : UInt64, oc = .returned (some (.double r)) ∧ P r ∧ t.heap = st.heap
/-- the contract of a look that answers a double and may draw -/
def lm_CD (D : va_G) (z zo : ClassId) (l : Launch) (y : MethodName) (ws : List Cond) (fr lo : Nat) (As : List Value) (w : va_W) (P : UInt64 → Prop) : Prop :=
  MetD lw_cs l y ws ({ frames := fr, cells := 0, slots := 0, locals := lo }) (lm_PcR D z zo As w) (lm_QD P) 0 0 (fun _ => False)
theorem lm_CD.of {D : va_G} {z zo : ClassId} {l : Launch} {y : MethodName} {ws ws' : List Cond} {fr lo : Nat} {As : List Value} {w : va_W} {P : UInt64 → Prop} {cc : ByteArray} {maxL : Nat} {own : String} (hy : plainName y.cls = true) (hw : ws = Cond.code y cc maxL (some .double) :: ws') (hlen : (lg_sl As).length ≤ maxL) (hown : y.cls = own)
    (body : ∀ (p : Program) (e : Env) (s : State) (m : MethodId) (args : Array Value) (below : List Frame) (meth : Method) (c : Code), lm_Cx p (s.setDrawn s.drawn) m args c D z zo maxL own ws cc → meth.sig.returnType = some .double → meth.locks = false → s.drawn.sameBut s.drawn lw_cs →
      lm_St p l e ({ frames := fr, cells := 0, slots := 0, locals := lo }) (s.setDrawn s.drawn) m args below meth c D (fun _ => False) maxL 0 0 (MQD lw_cs below (lm_QD P) args s 0 0 (fun _ => False)) true w 0 (lv_args 0 As) []) : lm_CD D z zo l y ws fr lo As w P := by
  refine MetD.ofW (cc := cc) (maxL := maxL) (ret := some .double) hy hw ?_
  intro p e s m args below meth c s₁ B hml hv hd0
  obtain ⟨rfl, hP, hK, hN⟩ := hv
  have hts := dr_words (atoms_spec (ws := ws) B.pre) s.drawn
  have hown2 : s.vm.findClass own = some m.cls := by rw [← hown]; exact findClass_of_methodNamed B.named
  have hl := lv_entry As (n := maxL) hlen
  rw [lg_entry_eq]
  exact body p e s m As.toArray below meth c ⟨B.exec, B.bytes, hml, hown2, hts, hK, hN⟩ B.returns B.notSynchronized hd0 s.heap [] _ ⟨hP, fun _ => ⟨rfl, rfl⟩, fun h => (by cases h)⟩ hl
theorem lm_rateA (C : lm_Cx p (s.setDrawn s.drawn) m args c D z zo nL own Ts cc) (hr : meth.sig.returnType = some .double) (hk : meth.locks = false) (hd0 : s.drawn.sameBut s.drawn lw_cs) {P : UInt64 → Prop} {x y : UInt64} (hP : ∀ r, alike64 r (FP.ddiv x y) = true → P r) (hd : decode cc pc = .ok (.ddiv, 1)) (hd2 : decode cc (pc + 1) = .ok (.dreturn, 1)) : lm_St p l e R (s.setDrawn s.drawn) m args below meth c D (fun _ => False) nL 0 0 (MQD lw_cs below (lm_QD P) args s 0 0 (fun _ => False)) true w pc lv [.double y, .double x] := by
  intro H locs ls hI hL
  obtain ⟨hH, hl⟩ := hI.2.1 rfl
  refine lv_ddiv_any hd0 lw_bits C.1 C.2.1 hd (fun r d1 hal hd1 => ?_)
  refine W.endD hd1 ?_
  exact W.dret C.1 C.2.1 hr (fun t ht hW => ⟨r, rfl, hP r hal, ht.trans hH⟩) (fun q hq => by rw [hl] at hq; exact absurd hq List.not_mem_nil) hd2 hk
theorem lm_rateB (C : lm_Cx p (s.setDrawn s.drawn) m args c D z zo nL own Ts cc) (hr : meth.sig.returnType = some .double) (hk : meth.locks = false) (hd0 : s.drawn.sameBut s.drawn lw_cs) {P : UInt64 → Prop} {x : UInt64} (hP : P x) (hd2 : decode cc pc = .ok (.dreturn, 1)) : lm_St p l e R (s.setDrawn s.drawn) m args below meth c D (fun _ => False) nL 0 0 (MQD lw_cs below (lm_QD P) args s 0 0 (fun _ => False)) true w pc lv [.double x] := by
  intro H locs ls hI hL
  obtain ⟨hH, hl⟩ := hI.2.1 rfl
  refine W.endD hd0 ?_
  exact W.dret C.1 C.2.1 hr (fun t ht hW => ⟨x, rfl, hP, ht.trans hH⟩) (fun q hq => by rw [hl] at hq; exact absurd hq List.not_mem_nil) hd2 hk
end LD
/-- what rate may answer, with x hits and y misses -/
def rP (x y : Int32) (r : UInt64) : Prop := if x + y = 0 then r = FP.dconst0 else alike64 r (FP.ddiv (FP.i2d x) (FP.i2d (x + y))) = true
set_option maxRecDepth 100000 in
set_option maxHeartbeats 4000000 in
theorem m_X6_rate (D : va_G) (z zo : ClassId) (l : Launch) (m : Nat → Nat) (a : Nat → Nat → Nat) (h : Nat → Hp) : lm_CD D z zo l yX6_rate wsX6_rate 1 21 [.ref (m 0)] (lmW z zo m a h) (rP (h 0 16 0) (h 0 16 1)) := by
  refine lm_CD.of (by decide) rfl (Nat.le_of_ble_eq_true rfl) (own := RX6) rfl ?_
  intro p e s m_ args below meth c C hr hk hd0
  show lm_St p l e ({ frames := 1, cells := 0, slots := 0, locals := 21 }) (s.setDrawn s.drawn) m_ args below meth c D (fun _ => False) 3 0 0 _ true (lmW z zo m a h) 0 [(0, .ref (m 0))] []
  have t0 : F_X4_tally (h 0) 0 = some (h 0 16 0) := rfl
  have t1 : F_X4_tally (h 0) 1 = some (h 0 16 1) := rfl
  refine lm_aload_n C dX6_rate_0 rfl 0 rfl rfl ?_
  refine lm_getf C (T := TX6) (N := 9) (v := .ref (a 0 0)) (by decide +kernel) 0 rfl rfl 0 (by decide) (by decide +kernel) rfl rfl dX6_rate_1 rfl ?_
  refine lm_iconst C (v := (0 : Int32)) dX6_rate_4 (by decide) rfl ?_
  refine lm_callVR C (n := 1) (ci := 4) (m_X4_tally D z zo l (a 0) (h 0) 0 _ t0) gX6_rate_X4_tally rfl (by decide +kernel) ⟨Nat.le_of_ble_eq_true rfl, Nat.le_of_ble_eq_true rfl⟩ ⟨Nat.le_of_ble_eq_true rfl, Nat.le_of_ble_eq_true rfl⟩ 5 rfl rfl (lm_s0 z zo m a h) rfl rfl (Nat.le_of_ble_eq_true rfl) dX6_rate_5 (st' := [.int (h 0 16 0)]) rfl rfl ?_
  refine lm_istore_n (lv' := [(1, .int (h 0 16 0)), (0, .ref (m 0))]) C dX6_rate_8 rfl (by decide) rfl [0, 1] rfl rfl ?_
  refine lm_iload_n C dX6_rate_9 rfl 0 rfl rfl ?_
  refine lm_aload_n C dX6_rate_10 rfl 1 rfl rfl ?_
  refine lm_getf C (T := TX6) (N := 9) (v := .ref (a 0 0)) (by decide +kernel) 0 rfl rfl 0 (by decide) (by decide +kernel) rfl rfl dX6_rate_11 rfl ?_
  refine lm_iconst C (v := (1 : Int32)) dX6_rate_14 (by decide) rfl ?_
  refine lm_callVR C (n := 1) (ci := 4) (m_X4_tally D z zo l (a 0) (h 0) 1 _ t1) gX6_rate_X4_tally rfl (by decide +kernel) ⟨Nat.le_of_ble_eq_true rfl, Nat.le_of_ble_eq_true rfl⟩ ⟨Nat.le_of_ble_eq_true rfl, Nat.le_of_ble_eq_true rfl⟩ 5 rfl rfl (lm_s0 z zo m a h) rfl rfl (Nat.le_of_ble_eq_true rfl) dX6_rate_15 (st' := [.int (h 0 16 1), .int (h 0 16 0)]) rfl rfl ?_
  refine lm_iadd C (v := h 0 16 0 + h 0 16 1) dX6_rate_18 rfl rfl ?_
  refine lm_istore_n (lv' := [(2, .int (h 0 16 0 + h 0 16 1)), (1, .int (h 0 16 0)), (0, .ref (m 0))]) C dX6_rate_19 rfl (by decide) rfl [0, 1, 2] rfl rfl ?_
  refine lm_iload_n C dX6_rate_20 rfl 0 rfl rfl ?_
  refine lm_if_ne C (tgt := 28) dX6_rate_21 (by decide) rfl (fun c1 => ?_) (fun c1 => ?_)
  · refine lm_iload_n C dX6_rate_28 rfl 1 rfl rfl ?_
    refine lm_i2d C dX6_rate_29 rfl ?_
    refine lm_iload_n C dX6_rate_30 rfl 0 rfl rfl ?_
    refine lm_i2d C dX6_rate_31 rfl ?_
    exact lm_rateA C hr hk hd0 (fun r hal => by unfold rP; rw [if_neg c1]; exact hal) dX6_rate_32 dX6_rate_33
  · have c1' : h 0 16 0 + h 0 16 1 = 0 := Classical.not_not.mp c1
    refine lm_dconst0 C dX6_rate_24 rfl ?_
    refine lm_goto C (tgt := 33) dX6_rate_25 (by decide) ?_
    exact lm_rateB C hr hk hd0 (by unfold rP; rw [if_pos c1']) dX6_rate_33
set_option maxRecDepth 100000 in
set_option maxHeartbeats 4000000 in
theorem m_X7_rate (D : va_G) (z zo : ClassId) (l : Launch) (a : Nat → Nat) (σ : Hp) : lm_CD D z zo l yX7_rate wsX7_rate 0 0 [.ref (a 0)] (mdW z a σ) (rP (σ 1 9) (σ 1 10)) := by
  refine lm_CD.of (by decide) rfl (Nat.le_of_ble_eq_true rfl) (own := RX7) rfl ?_
  intro p e s m_ args below meth c C hr hk hd0
  show lm_St p l e ({ frames := 0, cells := 0, slots := 0, locals := 0 }) (s.setDrawn s.drawn) m_ args below meth c D (fun _ => False) 4 0 0 _ true (mdW z a σ) 0 [(0, .ref (a 0))] []
  refine lm_aload_n C dX7_rate_0 rfl 0 rfl rfl ?_
  refine lm_getf C (T := TX7) (N := 14) (v := .ref (a 1)) (by decide +kernel) 0 rfl rfl 0 (by decide) (by decide +kernel) rfl rfl dX7_rate_1 rfl ?_
  refine lm_bipush C (v := (9 : Int32)) dX7_rate_4 (by decide) rfl ?_
  refine lm_iald C (v := (σ 1 9)) 1 rfl (by unfold vp_in; decide) rfl dX7_rate_6 rfl ?_
  refine lm_i2d C dX7_rate_7 rfl ?_
  refine lm_dstore_n (lv' := [(1, .double (FP.i2d (σ 1 9))), (0, .ref (a 0))]) C dX7_rate_8 rfl (by decide) rfl rfl ?_
  refine lm_aload_n C dX7_rate_9 rfl 1 rfl rfl ?_
  refine lm_getf C (T := TX7) (N := 14) (v := .ref (a 1)) (by decide +kernel) 0 rfl rfl 0 (by decide) (by decide +kernel) rfl rfl dX7_rate_10 rfl ?_
  refine lm_bipush C (v := (9 : Int32)) dX7_rate_13 (by decide) rfl ?_
  refine lm_iald C (v := (σ 1 9)) 1 rfl (by unfold vp_in; decide) rfl dX7_rate_15 rfl ?_
  refine lm_aload_n C dX7_rate_16 rfl 1 rfl rfl ?_
  refine lm_getf C (T := TX7) (N := 14) (v := .ref (a 1)) (by decide +kernel) 0 rfl rfl 0 (by decide) (by decide +kernel) rfl rfl dX7_rate_17 rfl ?_
  refine lm_bipush C (v := (10 : Int32)) dX7_rate_20 (by decide) rfl ?_
  refine lm_iald C (v := (σ 1 10)) 1 rfl (by unfold vp_in; decide) rfl dX7_rate_22 rfl ?_
  refine lm_iadd C (v := σ 1 9 + σ 1 10) dX7_rate_23 rfl rfl ?_
  refine lm_istore_n (lv' := [(3, .int (σ 1 9 + σ 1 10)), (1, .double (FP.i2d (σ 1 9))), (0, .ref (a 0))]) C dX7_rate_24 rfl (by decide) rfl [0, 1, 2] rfl rfl ?_
  refine lm_iload_n C dX7_rate_25 rfl 0 rfl rfl ?_
  refine lm_if_ne C (tgt := 33) dX7_rate_26 (by decide) rfl (fun c1 => ?_) (fun c1 => ?_)
  · refine lm_dload_n C dX7_rate_33 rfl 1 rfl rfl ?_
    refine lm_iload_n C dX7_rate_34 rfl 0 rfl rfl ?_
    refine lm_i2d C dX7_rate_35 rfl ?_
    exact lm_rateA C hr hk hd0 (fun r hal => by unfold rP; rw [if_neg c1]; exact hal) dX7_rate_36 dX7_rate_37
  · have c1' : σ 1 9 + σ 1 10 = 0 := Classical.not_not.mp c1
    refine lm_dconst0 C dX7_rate_29 rfl ?_
    refine lm_goto C (tgt := 37) dX7_rate_30 (by decide) ?_
    exact lm_rateB C hr hk hd0 (by unfold rP; rw [if_pos c1']) dX7_rate_37
/-! what is no number -/
theorem lm_nan {q : UInt64} (h : isNaN64 q = true) (r : UInt64) : FP.dcmp q r = none := by
  have h1 : 0x7ff0000000000000 < q.toNat &&& 0x7fffffffffffffff := by
    simp only [isNaN64, decide_eq_true_eq, gt_iff_lt, UInt64.lt_iff_toNat_lt, UInt64.toNat_and] at h
    exact h
  have e : q.toNat &&& 0x7fffffffffffffff = q.toNat % 2 ^ 63 := Nat.and_two_pow_sub_one_eq_mod q.toNat 63
  rw [e] at h1
  have hd : FP.Core.decode FP.Core.b64 q.toNat = .nan := by
    unfold FP.Core.decode
    have hE : FP.Core.fieldE FP.Core.b64 q.toNat = FP.Core.b64.exps - 1 := by
      show q.toNat / 4503599627370496 % 2048 = 2047
      omega
    have hT : ¬ FP.Core.fieldT FP.Core.b64 q.toNat = 0 := by
      show ¬ q.toNat % 4503599627370496 = 0
      omega
    rw [if_pos hE, if_neg hT]
  show FP.Core.order (FP.Core.decode FP.Core.b64 q.toNat) (FP.Core.decode FP.Core.b64 r.toNat) = none
  rw [hd]
  rfl
theorem lm_alike {q r d : UInt64} (h1 : alike64 q d = true) (h2 : alike64 r d = true) : q = r ∨ isNaN64 q = true := by
  simp only [alike64, Bool.or_eq_true, decide_eq_true_eq, Bool.and_eq_true] at h1 h2
  rcases h1 with h1 | ⟨h1, h3⟩
  · rcases h2 with h2 | ⟨h2, h4⟩
    · exact Or.inl (h1.trans h2.symm)
    · exact Or.inr (by rw [h1]; exact h4)
  · exact Or.inr h1
/-- the two rates are one, or no number -/
theorem rP_eq {x y : Int32} {q r : UInt64} (h1 : rP x y q) (h2 : rP x y r) : q = r ∨ isNaN64 q = true := by
  unfold rP at h1 h2
  by_cases c : x + y = 0
  · rw [if_pos c] at h1 h2
    exact Or.inl (h1.trans h2.symm)
  · rw [if_neg c] at h1 h2
    exact lm_alike h1 h2
theorem rP_sym {x y : Int32} {q r : UInt64} (h1 : rP x y q) (h2 : rP x y r) : Op.cmpValue (FP.dcmp q r) .l ≠ 0 → Op.cmpValue (FP.dcmp q q) .l ≠ 0 := by
  intro h
  rcases rP_eq h1 h2 with e | e
  · rw [← e] at h
    exact h
  · rw [lm_nan e]
    decide
theorem rP_symm {x y : Int32} {q r : UInt64} (h1 : rP x y q) (h2 : rP x y r) : Op.cmpValue (FP.dcmp q r) .l ≠ 0 → Op.cmpValue (FP.dcmp r r) .l ≠ 0 := by
  intro h
  rcases rP_eq h2 h1 with e | e
  · rw [← e] at h
    exact h
  · rw [lm_nan e]
    decide
