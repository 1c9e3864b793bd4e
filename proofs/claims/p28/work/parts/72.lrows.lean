/-! rows for the law's own methods -/
section LR
variable {p : Program} {l : Launch} {e : Env} {R : Room} {s : State} {m : MethodId} {args : Array Value} {below : List Frame} {meth : Method} {c : Code} {D : va_G} {z zo : ClassId} {A : Nat → Prop} {nL ce sl : Nat} {Q : State → Prop} {own : String} {Ts : List Cond} {cc : ByteArray} {ro : Bool} {w w' : va_W} {pc pc' : Nat} {lv lv' : Lv} {st : List Value}
theorem lm_i2d (C : lm_Cx p s m args c D z zo nL own Ts cc) {x : Int32} (hd : decode cc pc = .ok (.i2d, 1)) (hpc : pc + 1 = pc') (K : lm_St p l e R s m args below meth c D A nL ce sl Q ro w pc' lv (.double (FP.i2d x) :: st)) : lm_St p l e R s m args below meth c D A nL ce sl Q ro w pc lv (.int x :: st) := by
  subst hpc
  exact fun H locs ls hI hL => lv_i2d C.1 C.2.1 hd (K H locs ls hI hL)
theorem lm_dconst0 (C : lm_Cx p s m args c D z zo nL own Ts cc) (hd : decode cc pc = .ok (.dconst 0, 1)) (hpc : pc + 1 = pc') (K : lm_St p l e R s m args below meth c D A nL ce sl Q ro w pc' lv (.double FP.dconst0 :: st)) : lm_St p l e R s m args below meth c D A nL ce sl Q ro w pc lv st := by
  subst hpc
  exact fun H locs ls hI hL => lv_dconst0 C.1 C.2.1 hd (K H locs ls hI hL)
theorem lm_dcmp (C : lm_Cx p s m args c D z zo nL own Ts cc) {x y : UInt64} {op : CmpOp} {v : Int32} (hd : decode cc pc = .ok (.dcmp op, 1)) (hv : Op.cmpValue (FP.dcmp x y) op = v) (hpc : pc + 1 = pc') (K : lm_St p l e R s m args below meth c D A nL ce sl Q ro w pc' lv (.int v :: st)) : lm_St p l e R s m args below meth c D A nL ce sl Q ro w pc lv (.double y :: .double x :: st) := by
  subst hpc hv
  exact fun H locs ls hI hL => lv_dcmp C.1 C.2.1 hd (K H locs ls hI hL)
theorem lm_ddiv (C : lm_Cx p s m args c D z zo nL own Ts cc) {x y : UInt64} (hne : vf_n64 (FP.ddiv x y)) (hd : decode cc pc = .ok (.ddiv, 1)) (hpc : pc + 1 = pc') (K : lm_St p l e R s m args below meth c D A nL ce sl Q ro w pc' lv (.double (FP.ddiv x y) :: st)) : lm_St p l e R s m args below meth c D A nL ce sl Q ro w pc lv (.double y :: .double x :: st) := by
  subst hpc
  exact fun H locs ls hI hL => lv_ddiv C.1 C.2.1 hd hne (K H locs ls hI hL)
theorem lm_idiv (C : lm_Cx p s m args c D z zo nL own Ts cc) {x y v : Int32} (hd : decode cc pc = .ok (.idiv, 1)) (hne : ¬ y = 0) (hv : x / y = v) (hpc : pc + 1 = pc') (K : lm_St p l e R s m args below meth c D A nL ce sl Q ro w pc' lv (.int v :: st)) : lm_St p l e R s m args below meth c D A nL ce sl Q ro w pc lv (.int y :: .int x :: st) := by
  subst hpc
  exact fun H locs ls hI hL => lv_idiv C.1 C.2.1 hd hne (by rw [hv]; exact K H locs ls hI hL)
theorem lm_ldc (C : lm_Cx p s m args c D z zo nL own Ts cc) {index : Nat} {v : Int32} (hc : Cond.constant own index v ∈ Ts) (hd : decode cc pc = .ok (.ldc index, 2)) (hpc : pc + 2 = pc') (K : lm_St p l e R s m args below meth c D A nL ce sl Q ro w pc' lv (.int v :: st)) : lm_St p l e R s m args below meth c D A nL ce sl Q ro w pc lv st := by
  subst hpc
  exact fun H locs ls hI hL => lv_ldc C.1 C.2.1 C.2.2.2.1 (C.2.2.2.2.1 _ hc) hd (K H locs ls hI hL)
theorem lm_perm (hp : w.Perm w') (K : lm_St p l e R s m args below meth c D A nL ce sl Q false w' pc lv st) : lm_St p l e R s m args below meth c D A nL ce sl Q false w pc lv st :=
  fun H locs ls hI hL => K H locs ls ⟨lm_P_perm hp hI.1, fun h => (by cases h), fun _ => ⟨lm_D_perm hp (hI.2.2 rfl).1, (hI.2.2 rfl).2⟩⟩ hL
theorem lm_callS (C : lm_Cx p s m args c D z zo nL own Ts cc) {y : MethodName} {bytes : ByteArray} {maxL : Nat} {ret : Option FieldType} {wsy wsy' : List Cond} {fr lo n index : Nat} {As : List Value} {wc wr w1 : va_W} {rv : Option Value} {stk st' : List Value} (hA : lm_AZ A s) (hM : lm_C D z zo l y wsy fr lo As wc rv w1) (hG : GoodIn Ts (va_wsS own index y wsy)) (hw : wsy = Cond.code y bytes maxL ret :: wsy') (hdv : y.cls ≠ "java/lang/invoke/MethodHandle" ∧ y.cls ≠ "java/lang/invoke/VarHandle" ∧ (parseMethodDescriptor y.desc).map (fun d => d.parameters.length) = some n) (hR : fr + 1 ≤ R.frames ∧ 8 + (maxL + 11) + lo ≤ R.locals) (hce : ce + 0 ≤ R.cells ∧ sl + 0 ≤ R.slots) (hp : w.Perm (wc ++ wr)) (hp' : (w1 ++ wr).Perm w') (hn : As.length = n) (hstk : stk = As.reverse ++ st) (hcat : (st.map fun v => v.category).sum ≤ 8) (hd : decode cc pc = .ok (.invokestatic index, 3)) (hst : rv.toList ++ st = st') (hpc : pc + 3 = pc') (K : lm_St p l e R s m args below meth c D A nL ce sl Q false w' pc' lv st') : lm_St p l e R s m args below meth c D A nL ce sl Q false w pc lv stk := by
  subst hstk
  refine lm_goW (rv := rv) (wc := wc) (wr := wr) (w1 := w1) (mcA := As.toArray) hA hp hp' (fun H locs ls hI hL => ?_) hst hpc K
  have hD := lm_D_iff.mp (lm_D_perm hp (hI.2.2 rfl).1)
  exact va_runS (As := As) (rest := st) ⟨C.1, C.2.1, C.2.2.1, C.2.2.2.1, C.2.2.2.2.1⟩ (hM H.size) (va_cwS n C.2.2.2.2.1 hG hw rfl rfl hdv hR) ⟨lm_Pc.blind, fun U hU hW => ⟨rfl, by rw [hU], by rw [hU]; exact lm_P_sub (lm_P_perm hp hI.1) (fun q hq => List.mem_append_left _ hq), va_K.moved hW.alike C.2.2.2.2.2.1, lm_NW.warm hW C.2.2.2.2.2.2, lm_D_iff.mpr ⟨(List.nodup_append.mp (List.map_append ▸ hD.1)).1, fun _ _ => trivial⟩, lm_Zs.go hA (hI.2.2 rfl).2 hW.alike hU (lm_Acall hA hp hI)⟩⟩ rfl hn hL.1 rfl (lv_room hcat) hd hce
end LR
/-! cells picked out of a world -/
def lw_pk {α : Type} : List Nat → List α → Option (List α × List α)
  | [], w => some ([], w)
  | q :: ps, w => match w[q]? with
    | none => none
    | some x => match lw_pk ps (w.eraseIdx q) with
      | none => none
      | some r => some (x :: r.1, r.2)
theorem lw_pk_perm {α : Type} : ∀ (ps : List Nat) {w wc wr : List α}, lw_pk ps w = some (wc, wr) → w.Perm (wc ++ wr)
  | [], w, wc, wr, h => by
    cases h
    exact List.Perm.refl _
  | q :: ps, w, wc, wr, h => by
    rw [lw_pk] at h
    cases e : w[q]? with
    | none => rw [e] at h; cases h
    | some x =>
      rw [e] at h
      dsimp only at h
      cases f : lw_pk ps (w.eraseIdx q) with
      | none => rw [f] at h; cases h
      | some r =>
        rw [f] at h
        cases h
        exact (lm_pick w q x e).trans ((lw_pk_perm ps f).cons x)
theorem lw_hsub {w wc wr : va_W} (ps : List Nat) (h : lw_pk ps w = some (wc, wr)) : ∀ q ∈ wc, q ∈ w := fun q hq => (lw_pk_perm ps h).mem_iff.mpr (List.mem_append_left _ hq)
def lw_mp {α : Type} (ps : List Nat) (f : Nat → α) : Nat → α := fun j => f (ps.getD j 0)
/-! the law's arrays: one row of keys; u, q, l, n; u, i, o, q, l, n -/
def lw1W (z : ClassId) (b : Nat → Nat) (σ : Hp) : va_W := [(b 0, .inl (z, 10, .inl (σ 0)))]
def lw4W (z : ClassId) (b : Nat → Nat) (σ : Hp) : va_W := [(b 0, .inl (z, 16, .inl (σ 0))), (b 1, .inl (z, 10, .inl (σ 1))), (b 2, .inl (z, 10, .inl (σ 2))), (b 3, .inl (z, 10, .inl (σ 3)))]
def lw6W (z : ClassId) (b : Nat → Nat) (σ : Hp) : va_W := [(b 0, .inl (z, 16, .inl (σ 0))), (b 1, .inl (z, 44, .inl (σ 1))), (b 2, .inl (z, 44, .inl (σ 2))), (b 3, .inl (z, 10, .inl (σ 3))), (b 4, .inl (z, 10, .inl (σ 4))), (b 5, .inl (z, 10, .inl (σ 5)))]
def lwMW (z zo : ClassId) (m : Nat → Nat) (a : Nat → Nat → Nat) (b : Nat → Nat) (h : Nat → Hp) : va_W := lmW z zo m a h ++ lw6W z b (h 9)
def nw1W (z : ClassId) (t1 : Nat) (ν : Hp) : va_W := [(t1, .inl (z, 10, .inl (ν 0)))]
def nw2W (z : ClassId) (t1 t2 : Nat) (ν : Hp) : va_W := [(t1, .inl (z, 10, .inl (ν 0))), (t2, .inl (z, 10, .inl (ν 1)))]
theorem lm_9 (z zo : ClassId) (m : Nat → Nat) (a : Nat → Nat → Nat) (h : Nat → Hp) (σ : Hp) : lmW z zo m a (lm_uB h 9 σ) = lmW z zo m a h := rfl
theorem lw_9 (z : ClassId) (b : Nat → Nat) (h : Nat → Hp) (σ : Hp) : lw6W z b (lm_uB h 9 σ 9) = lw6W z b σ := rfl
section LWP
variable (z zo : ClassId) (m : Nat → Nat) (a : Nat → Nat → Nat) (b : Nat → Nat) (h : Nat → Hp)
/-- the object's cells, and back -/
theorem lw_gm : (lwMW z zo m a b h).Perm (lmW z zo m a h ++ lw6W z b (h 9)) := List.Perm.refl _
theorem lw_pm (τ : Nat → Hp) : (lmW z zo m a τ ++ lw6W z b (h 9)).Perm (lwMW z zo m a b (lm_uB τ 9 (h 9))) := by
  unfold lwMW
  rw [lm_9, lw_9]
theorem lw_sm : ∀ q ∈ lmW z zo m a h, q ∈ lwMW z zo m a b h := fun q hq => List.mem_append_left _ hq
/-- the law's arrays, and back -/
theorem lw_g6 : (lwMW z zo m a b h).Perm (lw6W z b (h 9) ++ lmW z zo m a h) := List.perm_append_comm
theorem lw_q6 (τ : Hp) : (lw6W z b τ ++ lmW z zo m a h).Perm (lwMW z zo m a b (lm_uB h 9 τ)) := by
  unfold lwMW
  rw [lm_9, lw_9]
  exact List.perm_append_comm
theorem lw_s6 : ∀ q ∈ lw6W z b (h 9), q ∈ lwMW z zo m a b h := fun q hq => List.mem_append_right _ hq
end LWP
/-! a look that lays cells of its own -/
def lm_CA (D : va_G) (z zo : ClassId) (l : Launch) (y : MethodName) (ws : List Cond) (fr lo mc ms : Nat) (As : List Value) (w : va_W) (rv : Option Value) : Prop :=
  ∀ sz : Nat, Met l y ws ({ frames := fr, cells := mc, slots := ms, locals := lo }) (lm_Pc D z zo As w sz) (lm_Q D rv w w sz) mc ms (va_A w sz)
abbrev lm_EndA (below : List Frame) (D : va_G) (rv : Option Value) (w : va_W) (args : Array Value) (s : State) (mc ms : Nat) : State → Prop := MQ below (lm_Q D rv w w s.heap.size) args s mc ms (va_A w s.heap.size)
theorem lm_CA.of {D : va_G} {z zo : ClassId} {l : Launch} {y : MethodName} {ws ws' : List Cond} {fr lo mc ms : Nat} {As : List Value} {w : va_W} {rv : Option Value} {cc : ByteArray} {maxL : Nat} {ret : Option FieldType} {own : String} (hy : plainName y.cls = true) (hw : ws = Cond.code y cc maxL ret :: ws') (hlen : (lg_sl As).length ≤ maxL) (hown : y.cls = own)
    (body : ∀ (p : Program) (e : Env) (s : State) (m : MethodId) (args : Array Value) (below : List Frame) (meth : Method) (c : Code), lm_Cx p s m args c D z zo maxL own ws cc → meth.sig.returnType = ret → meth.locks = false → lm_AZ (va_A w s.heap.size) s →
      lm_St p l e ({ frames := fr, cells := mc, slots := ms, locals := lo }) s m args below meth c D (va_A w s.heap.size) maxL 0 0 (lm_EndA below D rv w args s mc ms) false w 0 (lv_args 0 As) []) : lm_CA D z zo l y ws fr lo mc ms As w rv := by
  intro sz
  refine Met.ofW (cc := cc) (maxL := maxL) (ret := ret) hy hw ?_
  intro p e s m args below meth c s₁ B hml hv
  obtain ⟨rfl, hsz, hP, hK, hN, hD0, hZ⟩ := hv
  subst hsz
  have hts := atoms_spec (ws := ws) B.pre
  have hown2 : s.vm.findClass own = some m.cls := by rw [← hown]; exact findClass_of_methodNamed B.named
  have hl := lv_entry As (n := maxL) hlen
  rw [lg_entry_eq]
  exact body p e s m As.toArray below meth c ⟨B.exec, B.bytes, hml, hown2, hts, hK, hN⟩ B.returns B.notSynchronized ⟨fun q h => Or.inr h, hZ⟩ s.heap [] _ ⟨hP, fun h => (by cases h), fun _ => ⟨hD0.self, va_S.rf⟩⟩ hl
section LRA
variable {p : Program} {l : Launch} {e : Env} {R : Room} {s : State} {m : MethodId} {args : Array Value} {below : List Frame} {meth : Method} {c : Code} {D : va_G} {z zo : ClassId} {A : Nat → Prop} {nL ce sl : Nat} {Q : State → Prop} {own : String} {Ts : List Cond} {cc : ByteArray} {ro : Bool} {w w' : va_W} {pc pc' : Nat} {lv lv' : Lv} {st : List Value}
theorem lm_zretA (C : lm_Cx p s m args c D z zo nL own Ts cc) {w0 wj : va_W} (hr : meth.sig.returnType = some .boolean) (hk : meth.locks = false) {v : Int32} {rv : Option Value} (hb : narrow .boolean (.int v) = .int v) (hv : rv = some (.int v)) (hw : w = w0 ++ wj) (hd : decode cc pc = .ok (.ireturn, 1)) : lm_St p l e R s m args below meth c D (va_A w0 s.heap.size) nL ce sl (lm_EndA below D rv w0 args s ce sl) false w pc lv [.int v] := by
  subst hv hw
  intro H locs ls hI hL
  obtain ⟨hD, hS⟩ := hI.2.2 rfl
  have hDi := lm_D_iff.mp hD
  exact W.zret (v := v) C.1 C.2.1 hr hb (fun t ht hW => ⟨⟨rfl, by rw [ht]; exact lm_P_sub hI.1 (fun q hq => List.mem_append_left _ hq), lm_D_iff.mpr ⟨(List.nodup_append.mp (List.map_append ▸ hDi.1)).1, fun q hq => hDi.2 q (List.mem_append_left _ hq)⟩⟩, hS.F ht⟩) hS.2.2 hd hk
theorem lm_callSA (C : lm_Cx p s m args c D z zo nL own Ts cc) {y : MethodName} {bytes : ByteArray} {maxL : Nat} {ret : Option FieldType} {wsy wsy' : List Cond} {fr lo mc ms n index : Nat} {As : List Value} {wc wr : va_W} {rv : Option Value} {stk st' : List Value} (hA : lm_AZ A s) (hM : lm_CA D z zo l y wsy fr lo mc ms As wc rv) (hG : GoodIn Ts (va_wsS own index y wsy)) (hw : wsy = Cond.code y bytes maxL ret :: wsy') (hdv : y.cls ≠ "java/lang/invoke/MethodHandle" ∧ y.cls ≠ "java/lang/invoke/VarHandle" ∧ (parseMethodDescriptor y.desc).map (fun d => d.parameters.length) = some n) (hR : fr + 1 ≤ R.frames ∧ 8 + (maxL + 11) + lo ≤ R.locals) {ce' sl' : Nat} (hce1 : ce + mc = ce') (hsl1 : sl + ms = sl') (hro : ce' ≤ R.cells ∧ sl' ≤ R.slots) (hp : w.Perm (wc ++ wr)) (hn : As.length = n) (hstk : stk = As.reverse ++ st) (hcat : (st.map fun v => v.category).sum ≤ 8) (hd : decode cc pc = .ok (.invokestatic index, 3)) (hst : rv.toList ++ st = st') (hpc : pc + 3 = pc') (K : lm_St p l e R s m args below meth c D A nL ce' sl' Q false w pc' lv st') : lm_St p l e R s m args below meth c D A nL ce sl Q false w pc lv stk := by
  subst hstk hce1 hsl1 hst hpc
  intro H locs ls hI hL T hT X
  obtain ⟨hD, hS⟩ := hI.2.2 rfl
  have hPp := lm_P_perm hp hI.1
  have hDp := lm_D_perm hp hD
  have hDi := lm_D_iff.mp hDp
  have hF := lm_Acall hA hp hI
  obtain ⟨v, st₀, t, T', L, h0, X', hf, e1, e2, ⟨⟨hv, hP1, hD1⟩, hz, hk⟩, go⟩ := va_runS (As := As) (rest := st) ⟨C.1, C.2.1, C.2.2.1, C.2.2.2.1, C.2.2.2.2.1⟩ (hM H.size) (va_cwS n C.2.2.2.2.1 hG hw rfl rfl hdv hR) ⟨lm_Pc.blind, fun U hU hW => ⟨rfl, by rw [hU], by rw [hU]; exact lm_P_sub hPp (fun q hq => List.mem_append_left _ hq), va_K.moved hW.alike C.2.2.2.2.2.1, lm_NW.warm hW C.2.2.2.2.2.2, lm_D_iff.mpr ⟨(List.nodup_append.mp (List.map_append ▸ hDi.1)).1, fun _ _ => trivial⟩, lm_Zs.go hA hS hW.alike hU hF⟩⟩ rfl hn hL.1 rfl (lv_room hcat) hd hro T hT X
  have hv2 : v = rv := by cases hv; rfl
  subst hv2
  rw [h0] at hz hk
  obtain ⟨hP2, hD2⟩ := lm_frame hPp hDp hk hF hP1 hD1
  have hS2 : va_S A s.heap t.heap (locs ++ L) := ⟨Nat.le_trans hS.1 hz, fun q h1 h2 => by rw [hk q (Nat.lt_of_lt_of_le h1 hS.1) (fun z9 => h2 (hF q z9))]; exact hS.2.1 q h1 h2, fun q hq => by
    rcases List.mem_append.mp hq with h | h
    · exact hS.2.2 q h
    · exact hF _ (hf q h)⟩
  obtain ⟨t2, a1, b1⟩ := K t.heap (locs ++ L) ls ⟨lm_P_perm hp.symm hP2, fun h => (by cases h), fun _ => ⟨lm_D_perm hp.symm hD2, hS2⟩⟩ hL T' e1 X'
  exact ⟨t2, go t2 a1, b1⟩
theorem lm_dretR (C : lm_Cx p s m args c D z zo nL own Ts cc) (hr : meth.sig.returnType = some .double) (hk : meth.locks = false) {v : UInt64} {rv : Option Value} (hv : rv = some (.double v)) (hd : decode cc pc = .ok (.dreturn, 1)) : lm_St p l e R s m args below meth c D (fun _ => False) nL 0 0 (lm_EndR below rv args s) true w pc lv [.double v] := by
  subst hv
  intro H locs ls hI hL
  obtain ⟨rfl, rfl⟩ := hI.2.1 rfl
  exact W.dret (v := v) C.1 C.2.1 hr (fun t ht hW => ⟨rfl, ht⟩) (fun q hq => absurd hq List.not_mem_nil) hd hk
end LRA
theorem lw_nw2 {α : Type} {w : List α} {x y : α} : (y :: (w ++ [x])).Perm (w ++ [x, y]) := by
  refine lm_cnt fun f g h1 h2 h3 => ?_
  simp only [h1, h2, h3]
  omega
section LWN
variable (z zo : ClassId) (m : Nat → Nat) (a : Nat → Nat → Nat) (b : Nat → Nat) (h : Nat → Hp) (t1 t2 : Nat) (ν : Hp)
theorem lw_s4 : ∀ q ∈ lw4W z (lw_f4 (b 0) t1 t2 (b 5)) (lw_f4 (h 9 0) (ν 0) (ν 1) (h 9 5)), q ∈ lwMW z zo m a b h ++ nw2W z t1 t2 ν := by
  intro q hq
  have hq : q = (b 0, .inl (z, 16, .inl (h 9 0))) ∨ q = (t1, .inl (z, 10, .inl (ν 0))) ∨ q = (t2, .inl (z, 10, .inl (ν 1))) ∨ q = (b 5, .inl (z, 10, .inl (h 9 5))) := by
    rcases List.mem_cons.mp hq with e | hq
    · exact Or.inl e
    rcases List.mem_cons.mp hq with e | hq
    · exact Or.inr (Or.inl e)
    rcases List.mem_cons.mp hq with e | hq
    · exact Or.inr (Or.inr (Or.inl e))
    rcases List.mem_cons.mp hq with e | hq
    · exact Or.inr (Or.inr (Or.inr e))
    exact absurd hq List.not_mem_nil
  rcases hq with e | e | e | e <;> subst e
  · exact List.mem_append_left _ (lw_s6 z zo m a b h _ (List.mem_of_getElem? (i := 0) rfl))
  · exact List.mem_append_right _ (List.mem_of_getElem? (i := 0) rfl)
  · exact List.mem_append_right _ (List.mem_of_getElem? (i := 1) rfl)
  · exact List.mem_append_left _ (lw_s6 z zo m a b h _ (List.mem_of_getElem? (i := 5) rfl))
theorem lw_gn0 {w : va_W} : (w ++ nw2W z t1 t2 ν).Perm (lw1W z (lw_f1 t1) (lw_f1 (ν 0)) ++ (w ++ ([(t2, .inl (z, 10, .inl (ν 1)))] : va_W))) := by
  refine lm_cnt fun f g h1 h2 h3 => ?_
  simp only [nw2W, lw1W, lw_f1, h1, h2, h3]
  omega
theorem lw_gn1 {w : va_W} : (w ++ nw2W z t1 t2 ν).Perm (lw1W z (lw_f1 t2) (lw_f1 (ν 1)) ++ (w ++ ([(t1, .inl (z, 10, .inl (ν 0)))] : va_W))) := by
  refine lm_cnt fun f g h1 h2 h3 => ?_
  simp only [nw2W, lw1W, lw_f1, h1, h2, h3]
  omega
theorem lw_pn0 (τ : Hp) {w : va_W} : (lw1W z (lw_f1 t1) τ ++ (w ++ ([(t2, .inl (z, 10, .inl (ν 1)))] : va_W))).Perm (w ++ nw2W z t1 t2 (lm_ua ν 0 (τ 0))) := by
  have e : nw2W z t1 t2 (lm_ua ν 0 (τ 0)) = [(t1, .inl (z, 10, .inl (τ 0))), (t2, .inl (z, 10, .inl (ν 1)))] := rfl
  rw [e]
  refine lm_cnt fun f g h1 h2 h3 => ?_
  simp only [lw1W, lw_f1, h1, h2, h3]
  omega
theorem lw_pn1 (τ : Hp) {w : va_W} : (lw1W z (lw_f1 t2) τ ++ (w ++ ([(t1, .inl (z, 10, .inl (ν 0)))] : va_W))).Perm (w ++ nw2W z t1 t2 (lm_ua ν 1 (τ 0))) := by
  have e : nw2W z t1 t2 (lm_ua ν 1 (τ 0)) = [(t1, .inl (z, 10, .inl (ν 0))), (t2, .inl (z, 10, .inl (τ 0)))] := rfl
  rw [e]
  refine lm_cnt fun f g h1 h2 h3 => ?_
  simp only [lw1W, lw_f1, h1, h2, h3]
  omega
end LWN
set_option maxRecDepth 100000 in
set_option maxHeartbeats 4000000 in
theorem m_X6_rate (D : va_G) (z zo : ClassId) (l : Launch) (m : Nat → Nat) (a : Nat → Nat → Nat) (h : Nat → Hp) : lm_CR D z zo l yX6_rate wsX6_rate 1 21 [.ref (m 0)] (lmW z zo m a h) (some (.double (rD (h 0 16 0) (h 0 16 1)))) := by
  refine lm_CR.of (by decide) rfl (Nat.le_of_ble_eq_true rfl) (own := RX6) rfl ?_
  intro p e s m_ args below meth c C hr hk
  show lm_St p l e ({ frames := 1, cells := 0, slots := 0, locals := 21 }) s m_ args below meth c D (fun _ => False) 3 0 0 _ true (lmW z zo m a h) 0 [(0, .ref (m 0))] []
  have t0 : F_X4_tally (h 0) 0 = some (h 0 16 0) := rfl
  have t1 : F_X4_tally (h 0) 1 = some (h 0 16 1) := rfl
  refine lm_aload_n C dX6_rate_0 rfl 0 rfl rfl ?_
  refine lm_getf C (T := TX6) (N := 9) (v := .ref (a 0 0)) (by decide +kernel) 0 rfl rfl 0 (by decide) (by decide +kernel) rfl rfl dX6_rate_1 rfl ?_
  refine lm_iconst C (v := (0 : Int32)) dX6_rate_4 (by decide) rfl ?_
  refine lm_callVR C (n := 1) (ci := 4) (m_X4_tally D z zo l (a 0) (h 0) 0 _ t0) gX6_rate_X4_tally rfl (by decide +kernel) ⟨Nat.le_of_ble_eq_true rfl, Nat.le_of_ble_eq_true rfl⟩ ⟨Nat.le_of_ble_eq_true rfl, Nat.le_of_ble_eq_true rfl⟩ 5 rfl rfl (lm_s0 z zo m a h) rfl rfl (Nat.le_of_ble_eq_true rfl) dX6_rate_5 (st' := [.int (h 0 16 0)]) rfl rfl ?_
  refine lm_istore_n (lv' := [(1, .int (h 0 16 0)), (0, .ref (m 0))]) C dX6_rate_8 rfl (by decide) rfl [0, 1] rfl rfl ?_
  refine lm_iload_n C dX6_rate_9 rfl 0 rfl rfl ?_
  refine lm_aload_n C dX6_rate_10 rfl 1 rfl rfl ?_
  refine lm_getf C (T := TX6) (N := 9) (v := .ref (a 0 0)) (by decide +kernel) 0 rfl rfl 0 (by decide) (by decide +kernel) rfl rfl dX6_rate_11 rfl ?_
  refine lm_iconst C (v := (1 : Int32)) dX6_rate_14 (by decide) rfl ?_
  refine lm_callVR C (n := 1) (ci := 4) (m_X4_tally D z zo l (a 0) (h 0) 1 _ t1) gX6_rate_X4_tally rfl (by decide +kernel) ⟨Nat.le_of_ble_eq_true rfl, Nat.le_of_ble_eq_true rfl⟩ ⟨Nat.le_of_ble_eq_true rfl, Nat.le_of_ble_eq_true rfl⟩ 5 rfl rfl (lm_s0 z zo m a h) rfl rfl (Nat.le_of_ble_eq_true rfl) dX6_rate_15 (st' := [.int (h 0 16 1), .int (h 0 16 0)]) rfl rfl ?_
  refine lm_iadd C (v := h 0 16 0 + h 0 16 1) dX6_rate_18 rfl rfl ?_
  refine lm_istore_n (lv' := [(2, .int (h 0 16 0 + h 0 16 1)), (1, .int (h 0 16 0)), (0, .ref (m 0))]) C dX6_rate_19 rfl (by decide) rfl [0, 1, 2] rfl rfl ?_
  refine lm_iload_n C dX6_rate_20 rfl 0 rfl rfl ?_
  refine lm_if_ne C (tgt := 28) dX6_rate_21 (by decide) rfl (fun c1 => ?_) (fun c1 => ?_)
  · refine lm_iload_n C dX6_rate_28 rfl 1 rfl rfl ?_
    refine lm_i2d C dX6_rate_29 rfl ?_
    refine lm_iload_n C dX6_rate_30 rfl 0 rfl rfl ?_
    refine lm_i2d C dX6_rate_31 rfl ?_
    refine lm_ddiv C (nn_div _ _ c1) dX6_rate_32 rfl ?_
    exact lm_dretR C hr hk (by rw [rD, if_neg c1]) dX6_rate_33
  · have c1' : h 0 16 0 + h 0 16 1 = 0 := Classical.not_not.mp c1
    refine lm_dconst0 C dX6_rate_24 rfl ?_
    refine lm_goto C (tgt := 33) dX6_rate_25 (by decide) ?_
    exact lm_dretR C hr hk (by rw [rD, if_pos c1']) dX6_rate_33
