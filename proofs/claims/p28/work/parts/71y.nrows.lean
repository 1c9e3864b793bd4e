/-! objects that are made: rows -/
/-- the first settings, as they may be copied -/
def lm_Fs (z : ClassId) (A : Nat → Prop) (U : State) (H : Heap) : Prop := ∃ (t : Nat) (cell : Cell), va_Z RX4 "FIRST_SETTINGS" "[I" (.ref t) A U H ∧ H[t]? = some cell ∧ cell.cls = z ∧ cell.vm ≠ .unknown ∧ (∀ k, cell.vm ≠ .statics k) ∧ cell.slots = (vp_cell z (5, .inl lm_fsI)).slots ∧ ¬ A t
theorem lm_Fs.moved {z : ClassId} {A : Nat → Prop} {u U : State} {H : Heap} (hvm : u.vm.Alike U.vm) (h : lm_Fs z A u H) : lm_Fs z A U H := by
  obtain ⟨t, cell, h1, h2⟩ := h
  exact ⟨t, cell, h1.moved hvm, h2⟩
theorem lm_Fs.kept {z : ClassId} {A : Nat → Prop} {U : State} {H H1 : Heap} (h : lm_Fs z A U H) (hq : ∀ a : Nat, a < H.size → ¬ A a → H1[a]? = H[a]?) : lm_Fs z A U H1 := by
  obtain ⟨t, cell, h1, h2, h3, h4, h5, h6, h7⟩ := h
  exact ⟨t, cell, h1.kept hq, by rw [hq t (Array.getElem?_eq_some_iff.mp h2).1 h7]; exact h2, h3, h4, h5, h6, h7⟩
theorem lm_Fs.narrow {z : ClassId} {A B : Nat → Prop} {U : State} {H : Heap} (h : lm_Fs z A U H) (hAB : ∀ q, B q → A q) : lm_Fs z B U H := by
  obtain ⟨t, cell, h1, h2, h3, h4, h5, h6, h7⟩ := h
  exact ⟨t, cell, h1.narrow hAB, h2, h3, h4, h5, h6, fun q => h7 (hAB _ q)⟩
def lm_W2 (U : State) : Prop := va_Nw (.castable "[I" "java/lang/Cloneable") U ∧ va_AO "LoopMemo$State" U
theorem lm_W2.same {u U : State} (h : u.vm = U.vm) (k : lm_W2 u) : lm_W2 U := ⟨va_Nw.same rfl h k.1, va_AO.moved (by rw [h]; exact Vm.Alike.refl _) k.2⟩
theorem lm_W2.warm {u U : State} (h : u.WarmedH U.vm) (k : lm_W2 u) : lm_W2 U := ⟨va_Nw.warmC h k.1, va_AO.moved h.alike k.2⟩
def lm_AF (z : ClassId) (A : Nat → Prop) (s : State) : Prop := (∀ q, s.heap.size ≤ q → A q) ∧ lm_Fs z A s s.heap ∧ lm_W2 s
def lm_NP (D : va_G) (z zo : ClassId) (h0 ci : Nat) (fs : List Value) (sz : Nat) : Array Value → State → Prop := va_Pc [.ref h0] (fun U => U.heap.size = sz ∧ va_P D vwCl [(h0, .inr (ci, fs))] U.heap ∧ va_K D vwCl (lm_tys z zo) U ∧ lm_NW U ∧ va_D (fun _ => True) [(h0, .inr (ci, fs))] ∧ lm_Fs z (va_A [(h0, .inr (ci, fs))] sz) U U.heap ∧ lm_W2 U)
def lm_NQ {S : Type} (D : va_G) (h0 ci : Nat) (fs : List Value) (Wf : S → va_W) (Kf : S → Nat) (sz : Nat) : Array Value → State → Outcome → State → Prop := fun _ st oc t => (oc = .returned none ∧ ∃ u : S, Kf u = h0 ∧ va_P D vwCl (Wf u) t.heap ∧ va_D (va_A [(h0, .inr (ci, fs))] sz) (Wf u)) ∧ va_F (va_A [(h0, .inr (ci, fs))] sz) st t
/-- a constructor's contract: from the fields as they are first, the cells Wf u come, the object at Kf u -/
def lm_N {S : Type} (D : va_G) (z zo : ClassId) (l : Launch) (y : MethodName) (ws : List Cond) (fr lo mc ms ci : Nat) (fs : List Value) (Wf : S → va_W) (Kf : S → Nat) : Prop :=
  ∀ h0 sz : Nat, Met l y ws ({ frames := fr, cells := mc, slots := ms, locals := lo }) (lm_NP D z zo h0 ci fs sz) (lm_NQ D h0 ci fs Wf Kf sz) mc ms (va_A [(h0, .inr (ci, fs))] sz)
theorem lm_NP.blind {D : va_G} {z zo : ClassId} {h0 ci : Nat} {fs : List Value} {sz : Nat} : FrameBlind (lm_NP D z zo h0 ci fs sz) := by
  intro a U g mk ⟨h1, h2, h3, h4, h5, h6, h7, h8⟩
  exact ⟨h1, h2, h3, va_K.moved (u := U) (U := U.calling g mk a) (Vm.Alike.refl U.vm) h4, lm_NW.same (u := U) (U := U.calling g mk a) rfl h5, h6, lm_Fs.moved (u := U) (U := U.calling g mk a) (Vm.Alike.refl U.vm) h7, lm_W2.same (u := U) (U := U.calling g mk a) rfl h8⟩
abbrev lm_EndN {S : Type} (below : List Frame) (D : va_G) (h0 ci : Nat) (fs : List Value) (Wf : S → va_W) (Kf : S → Nat) (args : Array Value) (s : State) (mc ms : Nat) : State → Prop := MQ below (lm_NQ D h0 ci fs Wf Kf s.heap.size) args s mc ms (va_A [(h0, .inr (ci, fs))] s.heap.size)
theorem lm_N.of {S : Type} {D : va_G} {z zo : ClassId} {l : Launch} {y : MethodName} {ws ws' : List Cond} {fr lo mc ms ci : Nat} {fs : List Value} {Wf : S → va_W} {Kf : S → Nat} {cc : ByteArray} {maxL : Nat} {own : String} (hy : plainName y.cls = true) (hw : ws = Cond.code y cc maxL none :: ws') (hlen : 1 ≤ maxL) (hown : y.cls = own)
    (body : ∀ (p : Program) (e : Env) (s : State) (m : MethodId) (args : Array Value) (below : List Frame) (meth : Method) (c : Code) (h0 : Nat), lm_Cx p s m args c D z zo maxL own ws cc → meth.sig.returnType = none → meth.locks = false → meth.name = y.name → lm_AF z (va_A [(h0, .inr (ci, fs))] s.heap.size) s →
      lm_St p l e ({ frames := fr, cells := mc, slots := ms, locals := lo }) s m args below meth c D (va_A [(h0, .inr (ci, fs))] s.heap.size) maxL 0 0 (lm_EndN below D h0 ci fs Wf Kf args s mc ms) false [(h0, .inr (ci, fs))] 0 [(0, .ref h0)] []) : lm_N D z zo l y ws fr lo mc ms ci fs Wf Kf := by
  intro h0 sz
  refine Met.ofW (cc := cc) (maxL := maxL) (ret := none) hy hw ?_
  intro p e s m args below meth c s₁ B hml hv
  obtain ⟨rfl, hsz, hP, hK, hN, hD0, hZ, hW2⟩ := hv
  subst hsz
  have hts := atoms_spec (ws := ws) B.pre
  have hown2 : s.vm.findClass own = some m.cls := by rw [← hown]; exact findClass_of_methodNamed B.named
  have hl := lv_entry ([.ref h0] : List Value) (n := maxL) hlen
  rw [lg_entry_eq]
  exact body p e s m ([.ref h0] : List Value).toArray below meth c h0 ⟨B.exec, B.bytes, hml, hown2, hts, hK, hN⟩ B.returns B.notSynchronized (name_of_methodNamed B.named B.method).1 ⟨fun q h => Or.inr h, hZ, hW2⟩ s.heap [] _ ⟨hP, fun h => (by cases h), fun _ => ⟨hD0.self, va_S.rf⟩⟩ hl
section LN
variable {p : Program} {l : Launch} {e : Env} {R : Room} {s : State} {m : MethodId} {args : Array Value} {below : List Frame} {meth : Method} {c : Code} {D : va_G} {z zo : ClassId} {A : Nat → Prop} {nL ce sl : Nat} {Q : State → Prop} {own : String} {Ts : List Cond} {cc : ByteArray} {ro : Bool} {w w' : va_W} {pc pc' : Nat} {lv lv' : Lv} {st : List Value}
theorem lm_app1 {α : Type} {w : List α} {x : α} : (w ++ [x]).Perm (x :: w) := List.perm_append_comm
theorem lm_oinit (C : lm_Cx p s m args c D z zo nL own Ts cc) {index : Nat} (h0 : Cond.methodLink own index objectInit ∈ Ts) (h1 : Cond.instanceMethod objectInit ∈ Ts) (h2 : Cond.code objectInit ⟨#[0xb1]⟩ 1 none ∈ Ts) (hf : 1 ≤ R.frames) (hlo : 20 ≤ R.locals) (hcat : (st.map fun v => v.category).sum ≤ 8) {a : Nat} (hd : decode cc pc = .ok (.invokespecial index, 3)) (hpc : pc + 3 = pc') (K : lm_St p l e R s m args below meth c D A nL ce sl Q ro w pc' lv st) : lm_St p l e R s m args below meth c D A nL ce sl Q ro w pc lv (.ref a :: st) := by
  subst hpc
  exact fun H locs ls hI hL => W.objInit C.1 C.2.1 C.2.2.2.1 (C.2.2.2.2.1 _ h0) (C.2.2.2.2.1 _ h1) (C.2.2.2.2.1 _ h2) rfl (by rw [C.2.2.1]; exact hL.1) rfl hd hf (by show 2 * 0 + _ + 12 ≤ _; omega) (W.eq (g2 := F0 m (pc + 3) ls st) rfl (K H locs ls hI hL))
theorem lm_new (C : lm_Cx p s m args c D z zo nL own Ts cc) {Cn : String} {T : u_T} {N ci index : Nat} (hA : ∀ q, s.heap.size ≤ q → A q) (hin : ∀ w ∈ u_ws Cn T N, w ∈ Ts) (ty : Nat → FieldType) (hty : ∀ k, k < N → parseFieldDescriptor (T k).2.2.1 = some (ty k)) (hcl : Cond.classLink own index Cn ∈ Ts) (hinst : Cond.instantiable Cn N ∈ Ts) (hini : Cond.initialized Cn ∈ Ts) (hc : vwCl[ci]? = some (Cn, T, N)) {fs : List Value} (hfs : ∀ j, j < N → defaultValue (ty j) = vp_V fs j) {ce' sl' : Nat} (hce : ce + 1 = ce') (hsl : sl + N = sl') (hro : (decide (ce' ≤ R.cells) && decide (sl' ≤ R.slots)) = true) (hd : decode cc pc = .ok (.new index, 3)) (hpc : pc + 3 = pc') (K : ∀ q : Nat, lm_St p l e R s m args below meth c D A nL ce' sl' Q false ((q, .inr (ci, fs)) :: w) pc' lv (.ref q :: st)) : lm_St p l e R s m args below meth c D A nL ce sl Q false w pc lv st := by
  subst hpc hce hsl
  simp only [Bool.and_eq_true, decide_eq_true_eq] at hro
  exact fun H locs ls hI hL => va_new C.1 C.2.1 C.2.2.2.2.1 hin ty hty C.2.2.2.1 (C.2.2.2.2.1 _ hcl) (C.2.2.2.2.1 _ hinst) (C.2.2.2.2.1 _ hini) C.2.2.2.2.2.1 hI.1 (hI.2.2 rfl).1 (hI.2.2 rfl).2 hA hc hfs hro.1 hro.2 hd (fun q H1 hP hD hS => K q H1 locs ls ⟨lm_P_perm lm_app1 hP, fun h => (by cases h), fun _ => ⟨lm_D_perm lm_app1 hD, hS⟩⟩ hL)
theorem lm_newa (C : lm_Cx p s m args c D z zo nL own Ts cc) (hA : ∀ q, s.heap.size ≤ q → A q) (harr : Cond.arrayClass .int ∈ Ts) {n : Int32} {N : Nat} (hn : ¬ n < 0) (hN : n.toNatClampNeg = N) (hb : N * 4 ≤ 536870912) {ce' sl' : Nat} (hce : ce + 1 = ce') (hsl : sl + N = sl') (hro : (decide (ce' ≤ R.cells) && decide (sl' ≤ R.slots)) = true) (hd : decode cc pc = .ok (.newarray .int, 2)) (hpc : pc + 2 = pc') (K : ∀ q : Nat, lm_St p l e R s m args below meth c D A nL ce' sl' Q false ((q, .inl (z, N, .inl (fun _ => 0))) :: w) pc' lv (.ref q :: st)) : lm_St p l e R s m args below meth c D A nL ce sl Q false w pc lv (.int n :: st) := by
  subst hpc hce hsl
  simp only [Bool.and_eq_true, decide_eq_true_eq] at hro
  intro H locs ls hI hL
  refine va_newa (atype := .int) (ty := .int) (N' := N) (a0 := (N, .inl (fun _ => 0))) C.1 C.2.1 (C.2.2.2.2.1 _ harr) rfl C.2.2.2.2.2.1 hI.1 (hI.2.2 rfl).1 (hI.2.2 rfl).2 hA (fun _ => rfl) hn hN hb hro.1 hro.2 hd (fun q cA H1 hK hP hD hS => ?_)
  have h1 : s.vm.findClass ("[" ++ FieldType.int.toString) = some cA := (hK.2 2 _ rfl).2
  have h2 : s.vm.findClass ("[" ++ FieldType.int.toString) = some z := (C.2.2.2.2.2.1.2 0 _ rfl).2
  cases h1.symm.trans h2
  exact K q H1 locs ls ⟨lm_P_perm lm_app1 hP, fun h => (by cases h), fun _ => ⟨lm_D_perm lm_app1 hD, hS⟩⟩ hL
theorem lm_newq (C : lm_Cx p s m args c D z zo nL own Ts cc) (hA : ∀ q, s.heap.size ≤ q → A q) (hW2 : lm_W2 s) {index : Nat} (hcl : Cond.classLink own index "LoopMemo$State" ∈ Ts) {n : Int32} {N : Nat} (hn : ¬ n < 0) (hN : n.toNatClampNeg = N) (hb : N * 4 ≤ 536870912) {ce' sl' : Nat} (hce : ce + 1 = ce') (hsl : sl + N = sl') (hro : (decide (ce' ≤ R.cells) && decide (sl' ≤ R.slots)) = true) (hd : decode cc pc = .ok (.anewarray index, 3)) (hpc : pc + 3 = pc') (K : ∀ q : Nat, lm_St p l e R s m args below meth c D A nL ce' sl' Q false ((q, .inl (zo, N, .inr (.inr (.inr (.inr (fun _ => none)))))) :: w) pc' lv (.ref q :: st)) : lm_St p l e R s m args below meth c D A nL ce sl Q false w pc lv (.int n :: st) := by
  subst hpc hce hsl
  simp only [Bool.and_eq_true, decide_eq_true_eq] at hro
  intro H locs ls hI hL
  refine va_newq (C := "LoopMemo$State") (N' := N) C.1 C.2.1 C.2.2.2.1 (C.2.2.2.2.1 _ hcl) hW2.2 C.2.2.2.2.2.1 hI.1 (hI.2.2 rfl).1 (hI.2.2 rfl).2 hA hn hN hb hro.1 hro.2 hd (fun q cA H1 hK hP hD hS => ?_)
  obtain ⟨-, kA, comp, -, -, -, h1⟩ := hK.2 2 _ rfl
  obtain ⟨-, kB, comB, -, -, -, h2⟩ := C.2.2.2.2.2.1.2 1 _ rfl
  cases h1.symm.trans h2
  exact K q H1 locs ls ⟨lm_P_perm lm_app1 hP, fun h => (by cases h), fun _ => ⟨lm_D_perm lm_app1 hD, hS⟩⟩ hL
theorem lm_putF (C : lm_Cx p s m args c D z zo nL own Ts cc) {ref Cn : String} {T : u_T} {N ci index : Nat} (hname : meth.name = "<init>") (hin : ∀ w ∈ u_ws Cn T N, w ∈ Ts) (ty0 : Nat → FieldType) (hty : ∀ k, k < N → parseFieldDescriptor (T k).2.2.1 = some (ty0 k)) (hnm : ∀ a, a < N → ∀ b, b < N → a ≠ b → (T a).2.1 ≠ (T b).2.1) (q0 : Nat) {a : Nat} {fs : List Value} (he : w[q0]? = some (a, .inr (ci, fs))) (hc : vwCl[ci]? = some (Cn, T, N)) (k : Nat) (hk : k < N) (hlink : Cond.fieldLink own index ref (T k).2.1 (T k).2.2.1 ∈ Ts) (hsame : (T k).1 = ref) (hfin : (T k).2.2.2 = true) (hdecl : (T k).1 = own) {ty : FieldType} {v : Value} (hty2 : ty0 k = ty) (hn : narrow ty v = v) (hfit : fits ty v = true) (hl : k < fs.length) (hd : decode cc pc = .ok (.putfield index, 3)) (hw : w.set q0 (a, .inr (ci, fs.set k v)) = w') (hpc : pc + 3 = pc') (K : lm_St p l e R s m args below meth c D A nL ce sl Q false w' pc' lv st) : lm_St p l e R s m args below meth c D A nL ce sl Q false w pc lv (v :: .ref a :: st) := by
  subst hpc hw
  exact fun H locs ls hI hL => va_putF (D := D) C.1 C.2.1 C.2.2.2.2.1 hin ty0 hty hnm C.2.2.2.1 C.2.2.2.2.2.1 hI.1 (hI.2.2 rfl).1 (hI.2.2 rfl).2 q0 he hc k hk (C.2.2.2.2.1 _ hlink) (fun _ h9 => hsame ▸ h9) hfin hname hdecl (by rw [hty k hk, hty2]) hn hfit hl hd (fun H1 locs1 hP hD hS => K H1 locs1 ls ⟨hP, fun h => (by cases h), fun _ => ⟨hD, hS⟩⟩ hL)
theorem lm_astq (C : lm_Cx p s m args c D z zo nL own Ts cc) (q0 qk : Nat) {a n v : Nat} {vs : List Value} {f : Nat → Option Nat} (ha : w[q0]? = some (a, .inl (zo, n, .inr (.inr (.inr (.inr f)))))) (hv : w[qk]? = some (v, .inr (4, vs))) {i : Int32} (hin : vp_in i n) (hd : decode cc pc = .ok (.aastore, 1)) (hw : w.set q0 (a, .inl (zo, n, .inr (.inr (.inr (.inr (va_up f i.toNatClampNeg (some v))))))) = w') (hpc : pc + 1 = pc') (K : lm_St p l e R s m args below meth c D A nL ce sl Q false w' pc' lv st) : lm_St p l e R s m args below meth c D A nL ce sl Q false w pc lv (.ref v :: .int i :: .ref a :: st) := by
  subst hpc hw
  exact fun H locs ls hI hL => va_astq (D := D) C.1 C.2.1 C.2.2.2.2.2.1 hI.1 (hI.2.2 rfl).1 (hI.2.2 rfl).2 q0 1 qk 4 ha rfl hv rfl hin hd (fun H1 locs1 hP hD hS => K H1 locs1 ls ⟨hP, fun h => (by cases h), fun _ => ⟨hD, hS⟩⟩ hL)
theorem lm_callI (C : lm_Cx p s m args c D z zo nL own Ts cc) {S : Type} {Wf : S → va_W} {Kf : S → Nat} {y : MethodName} {bytes : ByteArray} {maxL : Nat} {wsy wsy' : List Cond} {fr lo mc ms index ci : Nat} {fs : List Value} {b : Nat} {wr : va_W} (hA : lm_AF z A s) (hM : lm_N D z zo l y wsy fr lo mc ms ci fs Wf Kf) (hG : GoodIn Ts wsy) (hw : wsy = Cond.code y bytes maxL none :: wsy') (hini : Cond.initialized y.cls ∈ Ts) (hlink : Cond.methodLink own index y ∈ Ts) (hinst : Cond.instanceMethod y ∈ Ts) (hy : y.name = "<init>") (hdv : y.cls ≠ "java/lang/invoke/MethodHandle" ∧ y.cls ≠ "java/lang/invoke/VarHandle" ∧ (parseMethodDescriptor y.desc).map (fun d => d.parameters.length) = some 0) (hR : fr + 1 ≤ R.frames ∧ 8 + (maxL + 11) + lo ≤ R.locals) {ce' sl' : Nat} (hce : ce + mc = ce') (hsl : sl + ms = sl') (hro : (decide (ce' ≤ R.cells) && decide (sl' ≤ R.slots)) = true) (hp : w.Perm ((b, .inr (ci, fs)) :: wr)) (hcat : (st.map fun v => v.category).sum ≤ 8) (hd : decode cc pc = .ok (.invokespecial index, 3)) (hpc : pc + 3 = pc') (K : ∀ u : S, Kf u = b → lm_St p l e R s m args below meth c D A nL ce' sl' Q false (Wf u ++ wr) pc' lv st) : lm_St p l e R s m args below meth c D A nL ce sl Q false w pc lv (.ref b :: st) := by
  subst hpc hce hsl
  simp only [Bool.and_eq_true, decide_eq_true_eq] at hro
  intro H locs ls hI hL T hT X
  obtain ⟨hD, hS⟩ := hI.2.2 rfl
  have hPp := lm_P_perm hp hI.1
  have hDp := lm_D_perm hp hD
  have hDi := lm_D_iff.mp hDp
  have hF : ∀ q, va_A [(b, .inr (ci, fs))] H.size q → A q := by
    intro q hq
    rcases hq with ⟨k, e9, hq⟩ | hq
    · exact hDi.2 (q, e9) (List.mem_append_left wr (List.mem_of_getElem? hq))
    · exact hA.1 q (Nat.le_trans hS.1 hq)
  obtain ⟨v, st₀, t, T', L, h0, X', hf, e1, e2, ⟨⟨hv, u, hu, hP1, hD1⟩, hz, hk⟩, go⟩ := va_runI (As := []) (rest := st) ⟨C.1, C.2.1, C.2.2.1, C.2.2.2.1, C.2.2.2.2.1⟩ (hM b H.size) (cwI 0 C.2.2.2.2.1 hG hw rfl rfl (C.2.2.2.2.1 _ hini) (C.2.2.2.2.1 _ hlink) (C.2.2.2.2.1 _ hinst) hy hdv hR) ⟨lm_NP.blind, fun U hU hW => ⟨rfl, by rw [hU], by rw [hU]; exact lm_P_sub hPp (fun q hq => List.mem_append_left wr hq), va_K.moved hW.alike C.2.2.2.2.2.1, lm_NW.warm hW C.2.2.2.2.2.2, lm_D_iff.mpr ⟨(List.nodup_append.mp ((List.map_append (l₁ := [(b, (.inr (ci, fs) : va_E))]) (l₂ := wr) (f := Prod.fst)) ▸ hDi.1)).1, fun _ _ => trivial⟩, by rw [hU]; exact ((hA.2.1.moved hW.alike).kept hS.2.1).narrow hF, lm_W2.warm hW hA.2.2⟩⟩ rfl rfl hL.1 rfl (lv_room hcat) hd hro T hT X
  cases hv
  rw [h0] at hz hk
  obtain ⟨hP2, hD2⟩ := lm_frame (wc := [(b, .inr (ci, fs))]) (wr := wr) hPp hDp hk hF hP1 hD1
  have hS2 : va_S A s.heap t.heap (locs ++ L) := ⟨Nat.le_trans hS.1 hz, fun q h1 h2 => by rw [hk q (Nat.lt_of_lt_of_le h1 hS.1) (fun z9 => h2 (hF q z9))]; exact hS.2.1 q h1 h2, fun q hq => by
    rcases List.mem_append.mp hq with h | h
    · exact hS.2.2 q h
    · exact hF _ (hf q h)⟩
  obtain ⟨t2, a1, b1⟩ := K u hu t.heap (locs ++ L) ls ⟨hP2, fun h => (by cases h), fun _ => ⟨hD2, hS2⟩⟩ hL T' e1 X'
  exact ⟨t2, go t2 a1, b1⟩
theorem lm_getsF (C : lm_Cx p s m args c D z zo nL own Ts cc) {index : Nat} (hA : lm_AF z A s) (hlink : Cond.fieldLink own index RX4 "FIRST_SETTINGS" "[I" ∈ Ts) (hd : decode cc pc = .ok (.getstatic index, 3)) (hpc : pc + 3 = pc') (K : ∀ (t : Nat) (cell : Cell), s.heap[t]? = some cell → cell.cls = z → cell.vm ≠ .unknown → (∀ k, cell.vm ≠ .statics k) → cell.slots = (vp_cell z (5, .inl lm_fsI)).slots → ¬ A t → lm_St p l e R s m args below meth c D A nL ce sl Q false w pc' lv (.ref t :: st)) : lm_St p l e R s m args below meth c D A nL ce sl Q false w pc lv st := by
  subst hpc
  obtain ⟨t, cell, h1, h2, h3, h4, h5, h6, h7⟩ := hA.2.1
  exact fun H locs ls hI hL => va_gets C.1 C.2.1 h1 (hI.2.2 rfl).2 C.2.2.2.1 (C.2.2.2.2.1 _ hlink) (fun _ h => h) hd (K t cell h2 h3 h4 h5 h6 h7 H locs ls hI hL)
theorem lm_clone (C : lm_Cx p s m args c D z zo nL own Ts cc) (hA : lm_AF z A s) {t : Nat} {cell : Cell} {index : Nat} (hcell : s.heap[t]? = some cell) (hcls : cell.cls = z) (hkn : cell.vm ≠ .unknown) (hst : ∀ k, cell.vm ≠ .statics k) (hslo : cell.slots = (vp_cell z (5, .inl lm_fsI)).slots) (hnA : ¬ A t) (hlink : Cond.methodLink own index ⟨"[I", "clone", "()Ljava/lang/Object;"⟩ ∈ Ts) (hsame : Cond.sameMethod "[I" "java/lang/Object" "clone" "()Ljava/lang/Object;" ∈ Ts) (hnat : Cond.native ⟨"java/lang/Object", "clone", "()Ljava/lang/Object;"⟩ ∈ Ts) (hinst : Cond.instanceMethod ⟨"java/lang/Object", "clone", "()Ljava/lang/Object;"⟩ ∈ Ts) (hsel : Cond.selects "[I" ⟨"[I", "clone", "()Ljava/lang/Object;"⟩ ⟨"java/lang/Object", "clone", "()Ljava/lang/Object;"⟩ ∈ Ts) (hf : 1 ≤ R.frames) (hlo : 22 ≤ R.locals) (hcat : (st.map fun v => v.category).sum ≤ 8) {ce' sl' : Nat} (hce : ce + 1 = ce') (hsl : sl + 5 = sl') (hro : (decide (ce' ≤ R.cells) && decide (sl' ≤ R.slots)) = true) (hd : decode cc pc = .ok (.invokevirtual index, 3)) (hpc : pc + 3 = pc') (K : ∀ q : Nat, lm_St p l e R s m args below meth c D A nL ce' sl' Q false ((q, .inl (z, 5, .inl lm_fsI)) :: w) pc' lv (.ref q :: st)) : lm_St p l e R s m args below meth c D A nL ce sl Q false w pc lv (.ref t :: st) := by
  subst hpc hce hsl
  simp only [Bool.and_eq_true, decide_eq_true_eq] at hro
  intro H locs ls hI hL T hT X
  obtain ⟨hD, hS⟩ := hI.2.2 rfl
  have hKz := C.2.2.2.2.2.1.2 0 _ rfl
  obtain ⟨c0, t0', f1, f2, f3⟩ := Cond.castable_spec (va_Nw.use (A := args) rfl hA.2.2.1)
  have hnm : s.vm.findClass "[I" = some z := hKz.2
  cases hnm.symm.trans f1
  have hcellT : T.heap[t]? = some cell := by rw [hT, hS.2.1 t (Array.getElem?_eq_some_iff.mp hcell).1 hnA]; exact hcell
  have hsz : cell.slots.size = 5 := by rw [hslo]; exact arrV_size _ _ _
  obtain ⟨-, kA, hkA, comp, hkind⟩ := State.isArrayOf_alike X.warmed.alike (hKz.1 0 (fun _ => .null))
  obtain ⟨-, kS, hkS, compS, hkindS⟩ := hKz.1 0 (fun _ => .null)
  have hfit : ∀ (i : Nat) (v : Value), cell.slots[i]? = some v → fits .int v = true := fun i v hv => va_fit (cA := z) (n := 5) (F := fun j => .int (lm_fsI j)) (ty := .int) (fun i _ => rfl) i v (by rw [hslo] at hv; exact hv)
  obtain ⟨vm', X', stp⟩ := X.cloneArray C.1 C.2.2.2.1 (C.2.2.2.2.1 _ hlink) (C.2.2.2.2.1 _ hsame) (C.2.2.2.2.1 _ hnat) (C.2.2.2.2.1 _ hinst) (C.2.2.2.2.1 _ hsel) (a := t) (cell := cell) hcellT hst hkn (by rw [hcls]; exact hnm) f2 (by rw [hcls]; exact f3)
    (fun i v hv => by
      rw [hcls]
      have hk' : T.vm.classes[z]? = some kA := hkA
      simpa [State.fitsSlot, State.slotType?, hk', hkind] using hfit i v hv)
    (g := F0 m pc ls (.ref t :: st)) rfl (by rw [C.2.2.1]; exact hL.1) rfl (by rw [C.2.1]; exact hd) hf (by show 2 * 0 + _ + 14 ≤ _; omega) hro.1 (by rw [hsz]; exact hro.2) (hloader := by rw [hcls]; exact Vm.clonesLoader_of_array hkS hkindS)
  have hcellE : ({ cls := cell.cls, slots := cell.slots } : Cell) = vp_cell z (5, .inl lm_fsI) := by rw [hcls, hslo]; rfl
  rw [hcellE, hsz] at X'
  generalize hH1 : H.push (vp_cell z (5, .inl lm_fsI)) = H1
  have z1 : H1.size = H.size + 1 := by rw [← hH1, Array.size_push]
  have e1 : H1[H.size]? = some (vp_cell z (5, .inl lm_fsI)) := by rw [← hH1, Array.getElem?_push_size]
  have o1 : ∀ q : Nat, q < H.size → H1[q]? = H[q]? := fun q hq => by rw [← hH1, Array.getElem?_push, if_neg (Nat.ne_of_lt hq)]
  have hk : ∀ (k : Nat) (y : Nat × va_E), w[k]? = some y → H1[y.1]? = H[y.1]? := fun k y hy => o1 y.1 ((hI.1 k y hy).lt)
  obtain ⟨t2, b1, b2⟩ := K H.size H1 locs ls ⟨lm_P_perm lm_app1 ((hI.1.kept hk).app (fun k y hy => by
      have hz : k < 1 := (List.getElem?_eq_some_iff.mp hy).1
      rw [show k = 0 by omega] at hy
      cases hy
      exact e1)), fun h => (by cases h), fun _ => ⟨lm_D_perm lm_app1 (hD.push hI.1 rfl (hA.1 _ hS.1)), Nat.le_trans hS.1 (by omega), fun y h1 h2 => (o1 y (Nat.lt_of_lt_of_le h1 hS.1)).trans (hS.2.1 y h1 h2), hS.2.2⟩⟩ hL
    ((T.setVm vm').pushCell (vp_cell z (5, .inl lm_fsI))) (by rw [← hH1, ← hT]; rfl) X'
  refine ⟨t2, stp t2 ?_, b2⟩
  rw [hcellE, hT]
  exact b1
theorem lm_castA (C : lm_Cx p s m args c D z zo nL own Ts cc) {index : Nat} (hlink : Cond.classLink own index "[I" ∈ Ts) (q0 : Nat) {a : Nat} {x : vp_A} (ha : w[q0]? = some (a, .inl (z, x))) (hd : decode cc pc = .ok (.checkcast index, 3)) (hpc : pc + 3 = pc') (K : lm_St p l e R s m args below meth c D A nL ce sl Q ro w pc' lv (.ref a :: st)) : lm_St p l e R s m args below meth c D A nL ce sl Q ro w pc lv (.ref a :: st) := by
  subst hpc
  exact fun H locs ls hI hL => va_castA C.1 C.2.1 C.2.2.2.1 (C.2.2.2.2.1 _ hlink) hI.1 q0 ha (C.2.2.2.2.2.1.2 0 _ rfl).2 hd (K H locs ls hI hL)
/-- a constructor's end: the cells are those promised, in another order -/
theorem lm_nret (C : lm_Cx p s m args c D z zo nL own Ts cc) {S : Type} {Wf : S → va_W} {Kf : S → Nat} {h0 ci : Nat} {fs : List Value} (hr : meth.sig.returnType = none) (hk : meth.locks = false) (u : S) (hu : Kf u = h0) (hp : w.Perm (Wf u)) (hd : decode cc pc = .ok (.return_, 1)) : lm_St p l e R s m args below meth c D (va_A [(h0, .inr (ci, fs))] s.heap.size) nL ce sl (lm_EndN below D h0 ci fs Wf Kf args s ce sl) false w pc lv [] := by
  intro H locs ls hI hL
  obtain ⟨hD, hS⟩ := hI.2.2 rfl
  exact W.vret C.1 C.2.1 hr (fun t ht hW => ⟨⟨rfl, u, hu, by rw [ht]; exact lm_P_perm hp hI.1, lm_D_perm hp hD⟩, hS.F ht⟩) hS.2.2 hd hk
/-- an array of references, another function with the same contents -/
theorem lm_rf_eq {cA : ClassId} {n : Nat} {f g : Nat → Option Nat} (h : ∀ i, i < n → f i = g i) : vp_cell cA (n, .inr (.inr (.inr (.inr f)))) = vp_cell cA (n, .inr (.inr (.inr (.inr g)))) := by
  have e : (fun j : _root_.Fin n => va_rf (f j.val)) = fun j : _root_.Fin n => va_rf (g j.val) := funext fun j => by rw [h j.1 j.2]
  show ({ cls := cA, slots := Array.ofFn (n := n) fun j => va_rf (f j.val), vm := .none } : Cell) = { cls := cA, slots := Array.ofFn (n := n) fun j => va_rf (g j.val), vm := .none }
  rw [e]
theorem lm_arr (q0 : Nat) {a n : Nat} {f g : Nat → Option Nat} (ha : w[q0]? = some (a, .inl (zo, n, .inr (.inr (.inr (.inr f)))))) (h : ∀ i, i < n → f i = g i) (hw : w.set q0 (a, .inl (zo, n, .inr (.inr (.inr (.inr g))))) = w') (K : lm_St p l e R s m args below meth c D A nL ce sl Q false w' pc lv st) : lm_St p l e R s m args below meth c D A nL ce sl Q false w pc lv st := by
  subst hw
  intro H locs ls hI hL
  obtain ⟨hD, hS⟩ := hI.2.2 rfl
  refine K H locs ls ⟨hI.1.set hD ha ?_ (fun q _ => rfl), fun h => (by cases h), fun _ => ⟨hD.set ha, hS⟩⟩ hL
  show H[a]? = some (vp_cell _ _)
  rw [← lm_rf_eq h]
  exact hI.1 q0 _ ha
end LN
