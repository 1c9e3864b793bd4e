/-! rows over an abstract state: own work -/
abbrev Hp : Type := Nat → Nat → Int32
abbrev Lv : Type := List (Nat × Value)
def lm_tys (z zo : ClassId) : List (ClassId × FieldType) := [(z, .int), (zo, .object "LoopMemo$State")]
def lm_NWl : List (String × Nat × MethodName) := [(RX0, 21, yX6_copyNumbers), (RX2, 21, yX6_copyNumbers), (RX4, 60, yX6_copyNumbers), (RX5, 18, yX6_copyNumbers), (RX4, 85, yX6_isRow)]
def lm_NW (U : State) : Prop := ∀ q ∈ lm_NWl, va_Nw (.methodLinkNest q.1 q.2.1 q.2.2 "LoopMemo") U
theorem lm_NW.same {u U : State} (h : u.vm = U.vm) (k : lm_NW u) : lm_NW U := fun q hq => va_Nw.same rfl h (k q hq)
theorem lm_NW.warm {u U : State} (h : u.WarmedH U.vm) (k : lm_NW u) : lm_NW U := fun q hq => va_Nw.warmM h (k q hq)
/-- ro: the heap is the start's own -/
def lm_I (D : va_G) (A : Nat → Prop) (s : State) (ro : Bool) (w : va_W) (H : Heap) (locs : List Loc) : Prop :=
  va_P D vwCl w H ∧ (ro = true → H = s.heap ∧ locs = []) ∧ (ro = false → va_D A w ∧ va_S A s.heap H locs)
def lm_St (p : Program) (l : Launch) (e : Env) (R : Room) (s : State) (m : MethodId) (args : Array Value) (below : List Frame) (meth : Method) (c : Code) (D : va_G) (A : Nat → Prop) (nL ce sl : Nat) (Q : State → Prop) (ro : Bool) (w : va_W) (pc : Nat) (lv : Lv) (st : List Value) : Prop :=
  ∀ (H : Heap) (locs : List Loc) (ls : Array Slot), lm_I D A s ro w H locs → lv_has ls nL lv → W p l e R s m args below meth c H locs ce sl Q (F0 m pc ls st)
def lm_Cx (p : Program) (s : State) (m : MethodId) (args : Array Value) (c : Code) (D : va_G) (z zo : ClassId) (nL : Nat) (own : String) (Ts : List Cond) (cc : ByteArray) : Prop :=
  p.tables.exec = Jvm.exec ∧ c.code = cc ∧ c.maxLocals = nL ∧ s.vm.findClass own = some m.cls ∧ (∀ w ∈ Ts, w.before args s = true) ∧ va_K D vwCl (lm_tys z zo) s ∧ lm_NW s
/-! permutations of a world -/
theorem lm_P_mem {D : va_G} {cl : List vw_C} {ws : va_W} {H : Heap} (h : va_P D cl ws H) {q : Nat × va_E} (hq : q ∈ ws) : va_at D cl q H := by
  obtain ⟨i, hi⟩ := List.getElem?_of_mem hq
  exact h i q hi
theorem lm_P_of {D : va_G} {cl : List vw_C} {ws : va_W} {H : Heap} (h : ∀ q ∈ ws, va_at D cl q H) : va_P D cl ws H := fun _ q hk => h q (List.mem_of_getElem? hk)
theorem lm_P_sub {D : va_G} {cl : List vw_C} {ws wc : va_W} {H : Heap} (h : va_P D cl ws H) (hs : ∀ q ∈ wc, q ∈ ws) : va_P D cl wc H := lm_P_of fun q hq => lm_P_mem h (hs q hq)
theorem lm_D_iff {A : Nat → Prop} {ws : va_W} : va_D A ws ↔ (ws.map Prod.fst).Nodup ∧ ∀ q ∈ ws, A q.1 := by
  constructor
  · intro h
    refine ⟨?_, fun q hq => ?_⟩
    · rw [List.nodup_iff_pairwise_ne, List.pairwise_iff_getElem]
      intro i j hi hj hij heq
      rw [List.getElem_map, List.getElem_map] at heq
      have hi' : i < ws.length := by simpa using hi
      have hj' : j < ws.length := by simpa using hj
      have := h.1 i j ws[i] ws[j] (List.getElem?_eq_getElem hi') (List.getElem?_eq_getElem hj') heq
      omega
    · obtain ⟨i, hi⟩ := List.getElem?_of_mem hq
      exact h.2 i q hi
  · intro ⟨h1, h2⟩
    refine ⟨fun i j x y hi hj hxy => ?_, fun k q hk => h2 q (List.mem_of_getElem? hk)⟩
    rw [List.nodup_iff_pairwise_ne, List.pairwise_iff_getElem] at h1
    have li := (List.getElem?_eq_some_iff.mp hi).1
    have lj := (List.getElem?_eq_some_iff.mp hj).1
    have ei := (List.getElem?_eq_some_iff.mp hi).2
    have ej := (List.getElem?_eq_some_iff.mp hj).2
    rcases Nat.lt_trichotomy i j with q | q | q
    · have := h1 i j (by simpa using li) (by simpa using lj) q
      rw [List.getElem_map, List.getElem_map, ei, ej] at this
      exact absurd hxy this
    · exact q
    · have := h1 j i (by simpa using lj) (by simpa using li) q
      rw [List.getElem_map, List.getElem_map, ei, ej] at this
      exact absurd hxy.symm this
theorem lm_D_perm {A : Nat → Prop} {w1 w2 : va_W} (hp : w1.Perm w2) (h : va_D A w1) : va_D A w2 := by
  rw [lm_D_iff] at h ⊢
  exact ⟨(hp.map _).nodup_iff.mp h.1, fun q hq => h.2 q (hp.mem_iff.mpr hq)⟩
theorem lm_P_perm {D : va_G} {cl : List vw_C} {w1 w2 : va_W} {H : Heap} (hp : w1.Perm w2) (h : va_P D cl w1 H) : va_P D cl w2 H := lm_P_sub h fun _ hq => hp.mem_iff.mpr hq
theorem lm_A_perm {w1 w2 : va_W} {sz q : Nat} (hp : w1.Perm w2) (h : va_A w1 sz q) : va_A w2 sz q := by
  rcases h with ⟨k, e, hk⟩ | h
  · obtain ⟨i, hi⟩ := List.getElem?_of_mem (hp.mem_iff.mp (List.mem_of_getElem? hk))
    exact Or.inl ⟨i, e, hi⟩
  · exact Or.inr h
/-- the frame rule, with the callee's cells ahead -/
theorem lm_frame {A0 : Nat → Prop} {D : va_G} {cl : List vw_C} {wc wr w1 : va_W} {H H1 : Heap} (hP : va_P D cl (wc ++ wr) H) (hD : va_D A0 (wc ++ wr)) (hk : ∀ q : Nat, q < H.size → ¬ va_A wc H.size q → H1[q]? = H[q]?) (hF : ∀ q, va_A wc H.size q → A0 q) (hP1 : va_P D cl w1 H1) (hD1 : va_D (va_A wc H.size) w1) : va_P D cl (w1 ++ wr) H1 ∧ va_D A0 (w1 ++ wr) := by
  have hDi := lm_D_iff.mp hD
  have hD1i := lm_D_iff.mp hD1
  have hnd := hDi.1
  rw [List.map_append, List.nodup_append] at hnd
  obtain ⟨-, n2, n3⟩ := hnd
  have apart : ∀ q ∈ wr, q.1 < H.size ∧ ¬ va_A wc H.size q.1 := by
    intro q hq
    have hl := (lm_P_mem hP (List.mem_append_right wc hq)).lt
    refine ⟨hl, fun h => ?_⟩
    rcases h with ⟨k, e, h⟩ | h
    · exact n3 q.1 (List.mem_map.mpr ⟨_, List.mem_of_getElem? h, rfl⟩) q.1 (List.mem_map.mpr ⟨q, hq, rfl⟩) rfl
    · omega
  refine ⟨va_P.app hP1 (lm_P_of fun q hq => ?_), lm_D_iff.mpr ⟨?_, fun q hq => ?_⟩⟩
  · obtain ⟨g1, g2⟩ := apart q hq
    exact (lm_P_mem hP (List.mem_append_right wc hq)).kept (hk q.1 g1 g2)
  · rw [List.map_append, List.nodup_append]
    refine ⟨hD1i.1, n2, fun a ha b hb hab => ?_⟩
    obtain ⟨x, hx, rfl⟩ := List.mem_map.mp ha
    obtain ⟨y, hy, rfl⟩ := List.mem_map.mp hb
    exact (apart y hy).2 (hab ▸ hD1i.2 x hx)
  · rcases List.mem_append.mp hq with h | h
    · exact hF _ (hD1i.2 q h)
    · exact hDi.2 q (List.mem_append_right wc h)
/-! the two tables of State that nobody writes -/
def lm_hsI : Nat → Int32 := fun j => match j with
  | 0 => 60
  | 1 => 2
  | 2 => 2
  | _ => 99
def lm_fsI : Nat → Int32 := fun j => match j with
  | 0 => 12
  | 4 => 99
  | _ => 0
def lm_Zs (A : Nat → Prop) (U : State) (H : Heap) : Prop := (∃ t : Nat, va_Z RX4 "HIGHEST_SETTINGS" "[I" (.ref t) A U H ∧ va_T .int t 5 (fun j => .int (lm_hsI j)) A U H) ∧ ∃ t : Nat, va_Z RX4 "FIRST_SETTINGS" "[I" (.ref t) A U H ∧ va_T .int t 5 (fun j => .int (lm_fsI j)) A U H
theorem lm_Zs.moved {A : Nat → Prop} {u U : State} {H : Heap} (hvm : u.vm.Alike U.vm) (h : lm_Zs A u H) : lm_Zs A U H := by
  obtain ⟨⟨t, h1, h2⟩, t', h3, h4⟩ := h
  exact ⟨⟨t, h1.moved hvm, h2.moved hvm⟩, t', h3.moved hvm, h4.moved hvm⟩
theorem lm_Zs.kept {A : Nat → Prop} {U : State} {H H1 : Heap} (h : lm_Zs A U H) (hq : ∀ a : Nat, a < H.size → ¬ A a → H1[a]? = H[a]?) : lm_Zs A U H1 := by
  obtain ⟨⟨t, h1, h2⟩, t', h3, h4⟩ := h
  exact ⟨⟨t, h1.kept hq, h2.kept hq⟩, t', h3.kept hq, h4.kept hq⟩
theorem lm_Zs.narrow {A B : Nat → Prop} {U : State} {H : Heap} (h : lm_Zs A U H) (hAB : ∀ q, B q → A q) : lm_Zs B U H := by
  obtain ⟨⟨t, h1, h2⟩, t', h3, h4⟩ := h
  exact ⟨⟨t, h1.narrow hAB, h2.narrow hAB⟩, t', h3.narrow hAB, h4.narrow hAB⟩
def lm_AZ (A : Nat → Prop) (s : State) : Prop := (∀ q, s.heap.size ≤ q → A q) ∧ lm_Zs A s s.heap
/-! contracts -/
def lm_Pc (D : va_G) (z zo : ClassId) (As : List Value) (w : va_W) (sz : Nat) : Array Value → State → Prop := va_Pc As (fun U => U.heap.size = sz ∧ va_P D vwCl w U.heap ∧ va_K D vwCl (lm_tys z zo) U ∧ lm_NW U ∧ va_D (fun _ => True) w ∧ lm_Zs (va_A w sz) U U.heap)
def lm_Q (D : va_G) (rv : Option Value) (w w' : va_W) (sz : Nat) : Array Value → State → Outcome → State → Prop := fun _ st oc t => (oc = .returned rv ∧ va_P D vwCl w' t.heap ∧ va_D (va_A w sz) w') ∧ va_F (va_A w sz) st t
def lm_C (D : va_G) (z zo : ClassId) (l : Launch) (y : MethodName) (ws : List Cond) (fr lo : Nat) (As : List Value) (w : va_W) (rv : Option Value) (w' : va_W) : Prop :=
  ∀ sz : Nat, Met l y ws ({ frames := fr, cells := 0, slots := 0, locals := lo }) (lm_Pc D z zo As w sz) (lm_Q D rv w w' sz) 0 0 (va_A w sz)
def lm_PcR (D : va_G) (z zo : ClassId) (As : List Value) (w : va_W) : Array Value → State → Prop := va_Pc As (fun U => va_P D vwCl w U.heap ∧ va_K D vwCl (lm_tys z zo) U ∧ lm_NW U)
def lm_QR (rv : Option Value) : Array Value → State → Outcome → State → Prop := fun _ st oc t => oc = .returned rv ∧ t.heap = st.heap
def lm_CR (D : va_G) (z zo : ClassId) (l : Launch) (y : MethodName) (ws : List Cond) (fr lo : Nat) (As : List Value) (w : va_W) (rv : Option Value) : Prop :=
  Met l y ws ({ frames := fr, cells := 0, slots := 0, locals := lo }) (lm_PcR D z zo As w) (lm_QR rv) 0 0 (fun _ => False)
theorem lm_Pc.blind {D : va_G} {z zo : ClassId} {As : List Value} {w : va_W} {sz : Nat} : FrameBlind (lm_Pc D z zo As w sz) := by
  intro a U g mk ⟨h1, h2, h3, h4, h5, h6, h7⟩
  exact ⟨h1, h2, h3, va_K.moved (u := U) (U := U.calling g mk a) (Vm.Alike.refl U.vm) h4, lm_NW.same (u := U) (U := U.calling g mk a) rfl h5, h6, lm_Zs.moved (u := U) (U := U.calling g mk a) (Vm.Alike.refl U.vm) h7⟩
theorem lm_PcR.blind {D : va_G} {z zo : ClassId} {As : List Value} {w : va_W} : FrameBlind (lm_PcR D z zo As w) := by
  intro a U g mk ⟨h1, h3, h4, h5⟩
  exact ⟨h1, h3, va_K.moved (u := U) (U := U.calling g mk a) (Vm.Alike.refl U.vm) h4, lm_NW.same (u := U) (U := U.calling g mk a) rfl h5⟩
abbrev lm_End (below : List Frame) (D : va_G) (rv : Option Value) (w w' : va_W) (args : Array Value) (s : State) : State → Prop := MQ below (lm_Q D rv w w' s.heap.size) args s 0 0 (va_A w s.heap.size)
abbrev lm_EndR (below : List Frame) (rv : Option Value) (args : Array Value) (s : State) : State → Prop := MQ below (lm_QR rv) args s 0 0 (fun _ => False)
theorem lm_C.of {D : va_G} {z zo : ClassId} {l : Launch} {y : MethodName} {ws ws' : List Cond} {fr lo : Nat} {As : List Value} {w : va_W} {rv : Option Value} {w' : va_W} {cc : ByteArray} {maxL : Nat} {ret : Option FieldType} {own : String} (hy : plainName y.cls = true) (hw : ws = Cond.code y cc maxL ret :: ws') (hlen : (lg_sl As).length ≤ maxL) (hown : y.cls = own)
    (body : ∀ (p : Program) (e : Env) (s : State) (m : MethodId) (args : Array Value) (below : List Frame) (meth : Method) (c : Code), lm_Cx p s m args c D z zo maxL own ws cc → meth.sig.returnType = ret → meth.locks = false → lm_AZ (va_A w s.heap.size) s →
      lm_St p l e ({ frames := fr, cells := 0, slots := 0, locals := lo }) s m args below meth c D (va_A w s.heap.size) maxL 0 0 (lm_End below D rv w w' args s) false w 0 (lv_args 0 As) []) : lm_C D z zo l y ws fr lo As w rv w' := by
  intro sz
  refine Met.ofW (cc := cc) (maxL := maxL) (ret := ret) hy hw ?_
  intro p e s m args below meth c s₁ B hml hv
  obtain ⟨rfl, hsz, hP, hK, hN, hD0, hZ⟩ := hv
  subst hsz
  have hts := atoms_spec (ws := ws) B.pre
  have hown2 : s.vm.findClass own = some m.cls := by rw [← hown]; exact findClass_of_methodNamed B.named
  have hl := lv_entry As (n := maxL) hlen
  rw [lg_entry_eq]
  exact body p e s m As.toArray below meth c ⟨B.exec, B.bytes, hml, hown2, hts, hK, hN⟩ B.returns B.notSynchronized ⟨fun q h => Or.inr h, hZ⟩ s.heap [] _ ⟨hP, fun h => (by cases h), fun _ => ⟨hD0.self, va_S.rf⟩⟩ hl
theorem lm_CR.of {D : va_G} {z zo : ClassId} {l : Launch} {y : MethodName} {ws ws' : List Cond} {fr lo : Nat} {As : List Value} {w : va_W} {rv : Option Value} {cc : ByteArray} {maxL : Nat} {ret : Option FieldType} {own : String} (hy : plainName y.cls = true) (hw : ws = Cond.code y cc maxL ret :: ws') (hlen : (lg_sl As).length ≤ maxL) (hown : y.cls = own)
    (body : ∀ (p : Program) (e : Env) (s : State) (m : MethodId) (args : Array Value) (below : List Frame) (meth : Method) (c : Code), lm_Cx p s m args c D z zo maxL own ws cc → meth.sig.returnType = ret → meth.locks = false →
      lm_St p l e ({ frames := fr, cells := 0, slots := 0, locals := lo }) s m args below meth c D (fun _ => False) maxL 0 0 (lm_EndR below rv args s) true w 0 (lv_args 0 As) []) : lm_CR D z zo l y ws fr lo As w rv := by
  refine Met.ofW (cc := cc) (maxL := maxL) (ret := ret) hy hw ?_
  intro p e s m args below meth c s₁ B hml hv
  obtain ⟨rfl, hP, hK, hN⟩ := hv
  have hts := atoms_spec (ws := ws) B.pre
  have hown2 : s.vm.findClass own = some m.cls := by rw [← hown]; exact findClass_of_methodNamed B.named
  have hl := lv_entry As (n := maxL) hlen
  rw [lg_entry_eq]
  exact body p e s m As.toArray below meth c ⟨B.exec, B.bytes, hml, hown2, hts, hK, hN⟩ B.returns B.notSynchronized s.heap [] _ ⟨hP, fun _ => ⟨rfl, rfl⟩, fun h => (by cases h)⟩ hl
section LM
variable {p : Program} {l : Launch} {e : Env} {R : Room} {s : State} {m : MethodId} {args : Array Value} {below : List Frame} {meth : Method} {c : Code} {D : va_G} {z zo : ClassId} {A : Nat → Prop} {nL ce sl : Nat} {Q : State → Prop} {own : String} {Ts : List Cond} {cc : ByteArray} {ro : Bool} {w w' : va_W} {pc pc' : Nat} {lv lv' : Lv} {st : List Value}
theorem lm_iconst (C : lm_Cx p s m args c D z zo nL own Ts cc) {n : Int} {v : Int32} (hd : decode cc pc = .ok (.iconst n, 1)) (hv : Int32.ofInt n = v) (hpc : pc + 1 = pc') (K : lm_St p l e R s m args below meth c D A nL ce sl Q ro w pc' lv (.int v :: st)) : lm_St p l e R s m args below meth c D A nL ce sl Q ro w pc lv st := by
  subst hpc
  exact fun H locs ls hI hL => lv_iconst C.1 C.2.1 hd hv (K H locs ls hI hL)
theorem lm_bipush (C : lm_Cx p s m args c D z zo nL own Ts cc) {n : Int} {v : Int32} (hd : decode cc pc = .ok (.bipush n, 2)) (hv : (Int8.ofInt n).toInt32 = v) (hpc : pc + 2 = pc') (K : lm_St p l e R s m args below meth c D A nL ce sl Q ro w pc' lv (.int v :: st)) : lm_St p l e R s m args below meth c D A nL ce sl Q ro w pc lv st := by
  subst hpc
  exact fun H locs ls hI hL => lv_bipush C.1 C.2.1 hd hv (K H locs ls hI hL)
theorem lm_sipush (C : lm_Cx p s m args c D z zo nL own Ts cc) {n : Int} {v : Int32} (hd : decode cc pc = .ok (.sipush n, 3)) (hv : (Int16.ofInt n).toInt32 = v) (hpc : pc + 3 = pc') (K : lm_St p l e R s m args below meth c D A nL ce sl Q ro w pc' lv (.int v :: st)) : lm_St p l e R s m args below meth c D A nL ce sl Q ro w pc lv st := by
  subst hpc
  exact fun H locs ls hI hL => lv_sipush C.1 C.2.1 hd hv (K H locs ls hI hL)
theorem lm_iload_n (C : lm_Cx p s m args c D z zo nL own Ts cc) {k : Fin 4} {i : Nat} {x : Int32} (hd : decode cc pc = .ok (.iload_n k, 1)) (hi : (k : Nat) = i) (q : Nat) (hl : lv[q]? = some (i, .int x)) (hpc : pc + 1 = pc') (K : lm_St p l e R s m args below meth c D A nL ce sl Q ro w pc' lv (.int x :: st)) : lm_St p l e R s m args below meth c D A nL ce sl Q ro w pc lv st := by
  subst hpc
  exact fun H locs ls hI hL => lv_iload_n C.1 C.2.1 hd hi (lv_at hL q hl) (K H locs ls hI hL)
theorem lm_iload (C : lm_Cx p s m args c D z zo nL own Ts cc) {i : Nat} {x : Int32} (hd : decode cc pc = .ok (.iload i, 2)) (q : Nat) (hl : lv[q]? = some (i, .int x)) (hpc : pc + 2 = pc') (K : lm_St p l e R s m args below meth c D A nL ce sl Q ro w pc' lv (.int x :: st)) : lm_St p l e R s m args below meth c D A nL ce sl Q ro w pc lv st := by
  subst hpc
  exact fun H locs ls hI hL => lv_iload C.1 C.2.1 hd (lv_at hL q hl) (K H locs ls hI hL)
theorem lm_aload_n (C : lm_Cx p s m args c D z zo nL own Ts cc) {k : Fin 4} {i : Nat} {x : Nat} (hd : decode cc pc = .ok (.aload_n k, 1)) (hi : (k : Nat) = i) (q : Nat) (hl : lv[q]? = some (i, .ref x)) (hpc : pc + 1 = pc') (K : lm_St p l e R s m args below meth c D A nL ce sl Q ro w pc' lv (.ref x :: st)) : lm_St p l e R s m args below meth c D A nL ce sl Q ro w pc lv st := by
  subst hpc
  exact fun H locs ls hI hL => lv_aload_n C.1 C.2.1 hd hi (lv_at hL q hl) (K H locs ls hI hL)
theorem lm_aload (C : lm_Cx p s m args c D z zo nL own Ts cc) {i : Nat} {x : Nat} (hd : decode cc pc = .ok (.aload i, 2)) (q : Nat) (hl : lv[q]? = some (i, .ref x)) (hpc : pc + 2 = pc') (K : lm_St p l e R s m args below meth c D A nL ce sl Q ro w pc' lv (.ref x :: st)) : lm_St p l e R s m args below meth c D A nL ce sl Q ro w pc lv st := by
  subst hpc
  exact fun H locs ls hI hL => lv_aload C.1 C.2.1 hd (lv_at hL q hl) (K H locs ls hI hL)
theorem lm_istore_n (C : lm_Cx p s m args c D z zo nL own Ts cc) {k : Fin 4} {i : Nat} {x : Int32} {lv1 : Lv} (hd : decode cc pc = .ok (.istore_n k, 1)) (hi : (k : Nat) = i) (hn : i < nL) (hl : (i, Value.int x) :: lv.filter (fun q => !(q.1 == i) && !(q.1 + 1 == i && q.2.category == 2)) = lv1) (ks : List Nat) (hq : lv_pick lv1 ks = lv') (hpc : pc + 1 = pc') (K : lm_St p l e R s m args below meth c D A nL ce sl Q ro w pc' lv' st) : lm_St p l e R s m args below meth c D A nL ce sl Q ro w pc lv (Value.int x :: st) := by
  subst hpc
  exact fun H locs ls hI hL => lv_istore_n C.1 C.2.1 hd hi hL hn hl (fun ls hl => K H locs ls hI (lv_sub hl ks hq))
theorem lm_istore (C : lm_Cx p s m args c D z zo nL own Ts cc) {i : Nat} {x : Int32} {lv1 : Lv} (hd : decode cc pc = .ok (.istore i, 2)) (hn : i < nL) (hl : (i, Value.int x) :: lv.filter (fun q => !(q.1 == i) && !(q.1 + 1 == i && q.2.category == 2)) = lv1) (ks : List Nat) (hq : lv_pick lv1 ks = lv') (hpc : pc + 2 = pc') (K : lm_St p l e R s m args below meth c D A nL ce sl Q ro w pc' lv' st) : lm_St p l e R s m args below meth c D A nL ce sl Q ro w pc lv (Value.int x :: st) := by
  subst hpc
  exact fun H locs ls hI hL => lv_istore C.1 C.2.1 hd hL hn hl (fun ls hl => K H locs ls hI (lv_sub hl ks hq))
theorem lm_astore_n (C : lm_Cx p s m args c D z zo nL own Ts cc) {k : Fin 4} {i : Nat} {x : Nat} {lv1 : Lv} (hd : decode cc pc = .ok (.astore_n k, 1)) (hi : (k : Nat) = i) (hn : i < nL) (hl : (i, Value.ref x) :: lv.filter (fun q => !(q.1 == i) && !(q.1 + 1 == i && q.2.category == 2)) = lv1) (ks : List Nat) (hq : lv_pick lv1 ks = lv') (hpc : pc + 1 = pc') (K : lm_St p l e R s m args below meth c D A nL ce sl Q ro w pc' lv' st) : lm_St p l e R s m args below meth c D A nL ce sl Q ro w pc lv (Value.ref x :: st) := by
  subst hpc
  exact fun H locs ls hI hL => lv_astore_n C.1 C.2.1 hd hi hL hn hl (fun ls hl => K H locs ls hI (lv_sub hl ks hq))
theorem lm_astore (C : lm_Cx p s m args c D z zo nL own Ts cc) {i : Nat} {x : Nat} {lv1 : Lv} (hd : decode cc pc = .ok (.astore i, 2)) (hn : i < nL) (hl : (i, Value.ref x) :: lv.filter (fun q => !(q.1 == i) && !(q.1 + 1 == i && q.2.category == 2)) = lv1) (ks : List Nat) (hq : lv_pick lv1 ks = lv') (hpc : pc + 2 = pc') (K : lm_St p l e R s m args below meth c D A nL ce sl Q ro w pc' lv' st) : lm_St p l e R s m args below meth c D A nL ce sl Q ro w pc lv (Value.ref x :: st) := by
  subst hpc
  exact fun H locs ls hI hL => lv_astore C.1 C.2.1 hd hL hn hl (fun ls hl => K H locs ls hI (lv_sub hl ks hq))
theorem lm_iinc (C : lm_Cx p s m args c D z zo nL own Ts cc) {i : Nat} {n : Int} {x : Int32} (v : Int32) {lv1 : Lv} (hd : decode cc pc = .ok (.iinc i n, 3)) (k : Nat) (hk : lv[k]? = some (i, .int x)) (hv : x + Int32.ofInt n = v) (hn : i < nL) (hl : (i, Value.int v) :: lv.filter (fun q => !(q.1 == i) && !(q.1 + 1 == i && q.2.category == 2)) = lv1) (ks : List Nat) (hq : lv_pick lv1 ks = lv') (hpc : pc + 3 = pc') (K : lm_St p l e R s m args below meth c D A nL ce sl Q ro w pc' lv' st) : lm_St p l e R s m args below meth c D A nL ce sl Q ro w pc lv st := by
  subst hpc
  exact fun H locs ls hI hL => lv_iinc C.1 C.2.1 hd hL hk hv hn hl (fun ls hl => K H locs ls hI (lv_sub hl ks hq))
theorem lm_iadd (C : lm_Cx p s m args c D z zo nL own Ts cc) {x y v : Int32} (hd : decode cc pc = .ok (.iadd, 1)) (hv : x + y = v) (hpc : pc + 1 = pc') (K : lm_St p l e R s m args below meth c D A nL ce sl Q ro w pc' lv (.int v :: st)) : lm_St p l e R s m args below meth c D A nL ce sl Q ro w pc lv (.int y :: .int x :: st) := by
  subst hpc
  exact fun H locs ls hI hL => lv_iadd C.1 C.2.1 hd (by rw [hv]; exact K H locs ls hI hL)
theorem lm_isub (C : lm_Cx p s m args c D z zo nL own Ts cc) {x y v : Int32} (hd : decode cc pc = .ok (.isub, 1)) (hv : x - y = v) (hpc : pc + 1 = pc') (K : lm_St p l e R s m args below meth c D A nL ce sl Q ro w pc' lv (.int v :: st)) : lm_St p l e R s m args below meth c D A nL ce sl Q ro w pc lv (.int y :: .int x :: st) := by
  subst hpc
  exact fun H locs ls hI hL => lv_isub C.1 C.2.1 hd (by rw [hv]; exact K H locs ls hI hL)
theorem lm_imul (C : lm_Cx p s m args c D z zo nL own Ts cc) {x y v : Int32} (hd : decode cc pc = .ok (.imul, 1)) (hv : x * y = v) (hpc : pc + 1 = pc') (K : lm_St p l e R s m args below meth c D A nL ce sl Q ro w pc' lv (.int v :: st)) : lm_St p l e R s m args below meth c D A nL ce sl Q ro w pc lv (.int y :: .int x :: st) := by
  subst hpc
  exact fun H locs ls hI hL => lv_imul C.1 C.2.1 hd (by rw [hv]; exact K H locs ls hI hL)
theorem lm_iand (C : lm_Cx p s m args c D z zo nL own Ts cc) {x y v : Int32} (hd : decode cc pc = .ok (.iand, 1)) (hv : x &&& y = v) (hpc : pc + 1 = pc') (K : lm_St p l e R s m args below meth c D A nL ce sl Q ro w pc' lv (.int v :: st)) : lm_St p l e R s m args below meth c D A nL ce sl Q ro w pc lv (.int y :: .int x :: st) := by
  subst hpc
  exact fun H locs ls hI hL => lv_iand C.1 C.2.1 hd (by rw [hv]; exact K H locs ls hI hL)
theorem lm_irem (C : lm_Cx p s m args c D z zo nL own Ts cc) {x y v : Int32} (hd : decode cc pc = .ok (.irem, 1)) (hne : ¬ y = 0) (hv : x - x / y * y = v) (hpc : pc + 1 = pc') (K : lm_St p l e R s m args below meth c D A nL ce sl Q ro w pc' lv (.int v :: st)) : lm_St p l e R s m args below meth c D A nL ce sl Q ro w pc lv (.int y :: .int x :: st) := by
  subst hpc
  exact fun H locs ls hI hL => lv_irem C.1 C.2.1 hd hne (by rw [hv]; exact K H locs ls hI hL)
theorem lm_dup (C : lm_Cx p s m args c D z zo nL own Ts cc) {va : Value} (hd : decode cc pc = .ok (.dup, 1)) (hva : va.category = 1) (hpc : pc + 1 = pc') (K : lm_St p l e R s m args below meth c D A nL ce sl Q ro w pc' lv (va :: va :: st)) : lm_St p l e R s m args below meth c D A nL ce sl Q ro w pc lv (va :: st) := by
  subst hpc
  exact fun H locs ls hI hL => lv_dup C.1 C.2.1 hd hva (K H locs ls hI hL)
theorem lm_dup2 (C : lm_Cx p s m args c D z zo nL own Ts cc) {va vb : Value} (hd : decode cc pc = .ok (.dup2, 1)) (hva : va.category = 1) (hvb : vb.category = 1) (hpc : pc + 1 = pc') (K : lm_St p l e R s m args below meth c D A nL ce sl Q ro w pc' lv (va :: vb :: va :: vb :: st)) : lm_St p l e R s m args below meth c D A nL ce sl Q ro w pc lv (va :: vb :: st) := by
  subst hpc
  exact fun H locs ls hI hL => lv_dup2_11 C.1 C.2.1 hd hva hvb (K H locs ls hI hL)
theorem lm_pop (C : lm_Cx p s m args c D z zo nL own Ts cc) {va : Value} (hd : decode cc pc = .ok (.pop, 1)) (hva : va.category = 1) (hpc : pc + 1 = pc') (K : lm_St p l e R s m args below meth c D A nL ce sl Q ro w pc' lv st) : lm_St p l e R s m args below meth c D A nL ce sl Q ro w pc lv (va :: st) := by
  subst hpc
  exact fun H locs ls hI hL => lv_pop C.1 C.2.1 hd hva (K H locs ls hI hL)
theorem lm_aconst_null (C : lm_Cx p s m args c D z zo nL own Ts cc) (hd : decode cc pc = .ok (.aconst_null, 1)) (hpc : pc + 1 = pc') (K : lm_St p l e R s m args below meth c D A nL ce sl Q ro w pc' lv (.null :: st)) : lm_St p l e R s m args below meth c D A nL ce sl Q ro w pc lv st := by
  subst hpc
  exact fun H locs ls hI hL => lv_null C.1 C.2.1 hd (K H locs ls hI hL)
theorem lm_i2l (C : lm_Cx p s m args c D z zo nL own Ts cc) {x : Int32} {v : Int64} (hd : decode cc pc = .ok (.i2l, 1)) (hv : x.toInt64 = v) (hpc : pc + 1 = pc') (K : lm_St p l e R s m args below meth c D A nL ce sl Q ro w pc' lv (.long v :: st)) : lm_St p l e R s m args below meth c D A nL ce sl Q ro w pc lv (.int x :: st) := by
  subst hpc
  exact fun H locs ls hI hL => lv_i2l C.1 C.2.1 hd hv (K H locs ls hI hL)
theorem lm_lconst (C : lm_Cx p s m args c D z zo nL own Ts cc) {n : Fin 2} {v : Int64} (hd : decode cc pc = .ok (.lconst n, 1)) (hv : Int64.ofNat (n : Nat) = v) (hpc : pc + 1 = pc') (K : lm_St p l e R s m args below meth c D A nL ce sl Q ro w pc' lv (.long v :: st)) : lm_St p l e R s m args below meth c D A nL ce sl Q ro w pc lv st := by
  subst hpc
  exact fun H locs ls hI hL => lv_lconst C.1 C.2.1 hd hv (K H locs ls hI hL)
theorem lm_lshl (C : lm_Cx p s m args c D z zo nL own Ts cc) {x v : Int64} {y : Int32} (hd : decode cc pc = .ok (.lshl, 1)) (hv : x <<< (y.toInt64 &&& 63) = v) (hpc : pc + 1 = pc') (K : lm_St p l e R s m args below meth c D A nL ce sl Q ro w pc' lv (.long v :: st)) : lm_St p l e R s m args below meth c D A nL ce sl Q ro w pc lv (.int y :: .long x :: st) := by
  subst hpc
  exact fun H locs ls hI hL => lv_lshl C.1 C.2.1 hd hv (K H locs ls hI hL)
theorem lm_ladd (C : lm_Cx p s m args c D z zo nL own Ts cc) {x y v : Int64} (hd : decode cc pc = .ok (.ladd, 1)) (hv : x + y = v) (hpc : pc + 1 = pc') (K : lm_St p l e R s m args below meth c D A nL ce sl Q ro w pc' lv (.long v :: st)) : lm_St p l e R s m args below meth c D A nL ce sl Q ro w pc lv (.long y :: .long x :: st) := by
  subst hpc
  exact fun H locs ls hI hL => lv_ladd C.1 C.2.1 hd (by rw [hv]; exact K H locs ls hI hL)
theorem lm_lcmp (C : lm_Cx p s m args c D z zo nL own Ts cc) {x y : Int64} {v : Int32} (hd : decode cc pc = .ok (.lcmp, 1)) (hv : lg_cmp x y = v) (hpc : pc + 1 = pc') (K : lm_St p l e R s m args below meth c D A nL ce sl Q ro w pc' lv (.int v :: st)) : lm_St p l e R s m args below meth c D A nL ce sl Q ro w pc lv (.long y :: .long x :: st) := by
  subst hpc
  exact fun H locs ls hI hL => W.lcmp C.1 C.2.1 hd (by rw [hv]; exact K H locs ls hI hL)
theorem lm_lvsub (ks : List Nat) (hq : lv_pick lv ks = lv') (K : lm_St p l e R s m args below meth c D A nL ce sl Q ro w pc lv' st) : lm_St p l e R s m args below meth c D A nL ce sl Q ro w pc lv st := fun H locs ls hI hL => K H locs ls hI (lv_sub hL ks hq)
theorem lm_if_eq (C : lm_Cx p s m args c D z zo nL own Ts cc) {x : Int32} {off : Int} {tgt : Nat} (hd : decode cc pc = .ok (.ifCond .eq off, 3)) (ht : (pc : Int) + off = (tgt : Int)) (hpc : pc + 3 = pc') (kt : x = 0 → lm_St p l e R s m args below meth c D A nL ce sl Q ro w tgt lv st) (kf : ¬ (x = 0) → lm_St p l e R s m args below meth c D A nL ce sl Q ro w pc' lv st) : lm_St p l e R s m args below meth c D A nL ce sl Q ro w pc lv (.int x :: st) := by
  subst hpc
  exact fun H locs ls hI hL => lv_if_eq C.1 C.2.1 hd ht (fun h => kt h H locs ls hI hL) (fun h => kf h H locs ls hI hL)
theorem lm_if_ne (C : lm_Cx p s m args c D z zo nL own Ts cc) {x : Int32} {off : Int} {tgt : Nat} (hd : decode cc pc = .ok (.ifCond .ne off, 3)) (ht : (pc : Int) + off = (tgt : Int)) (hpc : pc + 3 = pc') (kt : ¬ x = 0 → lm_St p l e R s m args below meth c D A nL ce sl Q ro w tgt lv st) (kf : ¬ (¬ x = 0) → lm_St p l e R s m args below meth c D A nL ce sl Q ro w pc' lv st) : lm_St p l e R s m args below meth c D A nL ce sl Q ro w pc lv (.int x :: st) := by
  subst hpc
  exact fun H locs ls hI hL => lv_if_ne C.1 C.2.1 hd ht (fun h => kt h H locs ls hI hL) (fun h => kf (not_not_intro h) H locs ls hI hL)
theorem lm_if_lt (C : lm_Cx p s m args c D z zo nL own Ts cc) {x : Int32} {off : Int} {tgt : Nat} (hd : decode cc pc = .ok (.ifCond .lt off, 3)) (ht : (pc : Int) + off = (tgt : Int)) (hpc : pc + 3 = pc') (kt : x < 0 → lm_St p l e R s m args below meth c D A nL ce sl Q ro w tgt lv st) (kf : ¬ (x < 0) → lm_St p l e R s m args below meth c D A nL ce sl Q ro w pc' lv st) : lm_St p l e R s m args below meth c D A nL ce sl Q ro w pc lv (.int x :: st) := by
  subst hpc
  exact fun H locs ls hI hL => lv_if_lt C.1 C.2.1 hd ht (fun h => kt h H locs ls hI hL) (fun h => kf h H locs ls hI hL)
theorem lm_if_ge (C : lm_Cx p s m args c D z zo nL own Ts cc) {x : Int32} {off : Int} {tgt : Nat} (hd : decode cc pc = .ok (.ifCond .ge off, 3)) (ht : (pc : Int) + off = (tgt : Int)) (hpc : pc + 3 = pc') (kt : 0 ≤ x → lm_St p l e R s m args below meth c D A nL ce sl Q ro w tgt lv st) (kf : ¬ (0 ≤ x) → lm_St p l e R s m args below meth c D A nL ce sl Q ro w pc' lv st) : lm_St p l e R s m args below meth c D A nL ce sl Q ro w pc lv (.int x :: st) := by
  subst hpc
  exact fun H locs ls hI hL => lv_if_ge C.1 C.2.1 hd ht (fun h => kt h H locs ls hI hL) (fun h => kf h H locs ls hI hL)
theorem lm_if_gt (C : lm_Cx p s m args c D z zo nL own Ts cc) {x : Int32} {off : Int} {tgt : Nat} (hd : decode cc pc = .ok (.ifCond .gt off, 3)) (ht : (pc : Int) + off = (tgt : Int)) (hpc : pc + 3 = pc') (kt : 0 < x → lm_St p l e R s m args below meth c D A nL ce sl Q ro w tgt lv st) (kf : ¬ (0 < x) → lm_St p l e R s m args below meth c D A nL ce sl Q ro w pc' lv st) : lm_St p l e R s m args below meth c D A nL ce sl Q ro w pc lv (.int x :: st) := by
  subst hpc
  exact fun H locs ls hI hL => lv_if_gt C.1 C.2.1 hd ht (fun h => kt h H locs ls hI hL) (fun h => kf h H locs ls hI hL)
theorem lm_if_le (C : lm_Cx p s m args c D z zo nL own Ts cc) {x : Int32} {off : Int} {tgt : Nat} (hd : decode cc pc = .ok (.ifCond .le off, 3)) (ht : (pc : Int) + off = (tgt : Int)) (hpc : pc + 3 = pc') (kt : x ≤ 0 → lm_St p l e R s m args below meth c D A nL ce sl Q ro w tgt lv st) (kf : ¬ (x ≤ 0) → lm_St p l e R s m args below meth c D A nL ce sl Q ro w pc' lv st) : lm_St p l e R s m args below meth c D A nL ce sl Q ro w pc lv (.int x :: st) := by
  subst hpc
  exact fun H locs ls hI hL => lv_if_le C.1 C.2.1 hd ht (fun h => kt h H locs ls hI hL) (fun h => kf h H locs ls hI hL)
theorem lm_icmp_eq (C : lm_Cx p s m args c D z zo nL own Ts cc) {x y : Int32} {off : Int} {tgt : Nat} (hd : decode cc pc = .ok (.if_icmp .eq off, 3)) (ht : (pc : Int) + off = (tgt : Int)) (hpc : pc + 3 = pc') (kt : x = y → lm_St p l e R s m args below meth c D A nL ce sl Q ro w tgt lv st) (kf : ¬ (x = y) → lm_St p l e R s m args below meth c D A nL ce sl Q ro w pc' lv st) : lm_St p l e R s m args below meth c D A nL ce sl Q ro w pc lv (.int y :: .int x :: st) := by
  subst hpc
  exact fun H locs ls hI hL => lv_icmp_eq C.1 C.2.1 hd ht (fun h => kt h H locs ls hI hL) (fun h => kf h H locs ls hI hL)
theorem lm_icmp_ne (C : lm_Cx p s m args c D z zo nL own Ts cc) {x y : Int32} {off : Int} {tgt : Nat} (hd : decode cc pc = .ok (.if_icmp .ne off, 3)) (ht : (pc : Int) + off = (tgt : Int)) (hpc : pc + 3 = pc') (kt : ¬ x = y → lm_St p l e R s m args below meth c D A nL ce sl Q ro w tgt lv st) (kf : ¬ (¬ x = y) → lm_St p l e R s m args below meth c D A nL ce sl Q ro w pc' lv st) : lm_St p l e R s m args below meth c D A nL ce sl Q ro w pc lv (.int y :: .int x :: st) := by
  subst hpc
  exact fun H locs ls hI hL => lv_icmp_ne C.1 C.2.1 hd ht (fun h => kt h H locs ls hI hL) (fun h => kf (not_not_intro h) H locs ls hI hL)
theorem lm_icmp_lt (C : lm_Cx p s m args c D z zo nL own Ts cc) {x y : Int32} {off : Int} {tgt : Nat} (hd : decode cc pc = .ok (.if_icmp .lt off, 3)) (ht : (pc : Int) + off = (tgt : Int)) (hpc : pc + 3 = pc') (kt : x < y → lm_St p l e R s m args below meth c D A nL ce sl Q ro w tgt lv st) (kf : ¬ (x < y) → lm_St p l e R s m args below meth c D A nL ce sl Q ro w pc' lv st) : lm_St p l e R s m args below meth c D A nL ce sl Q ro w pc lv (.int y :: .int x :: st) := by
  subst hpc
  exact fun H locs ls hI hL => lv_icmp_lt C.1 C.2.1 hd ht (fun h => kt h H locs ls hI hL) (fun h => kf h H locs ls hI hL)
theorem lm_icmp_ge (C : lm_Cx p s m args c D z zo nL own Ts cc) {x y : Int32} {off : Int} {tgt : Nat} (hd : decode cc pc = .ok (.if_icmp .ge off, 3)) (ht : (pc : Int) + off = (tgt : Int)) (hpc : pc + 3 = pc') (kt : y ≤ x → lm_St p l e R s m args below meth c D A nL ce sl Q ro w tgt lv st) (kf : ¬ (y ≤ x) → lm_St p l e R s m args below meth c D A nL ce sl Q ro w pc' lv st) : lm_St p l e R s m args below meth c D A nL ce sl Q ro w pc lv (.int y :: .int x :: st) := by
  subst hpc
  exact fun H locs ls hI hL => lv_icmp_ge C.1 C.2.1 hd ht (fun h => kt h H locs ls hI hL) (fun h => kf h H locs ls hI hL)
theorem lm_icmp_gt (C : lm_Cx p s m args c D z zo nL own Ts cc) {x y : Int32} {off : Int} {tgt : Nat} (hd : decode cc pc = .ok (.if_icmp .gt off, 3)) (ht : (pc : Int) + off = (tgt : Int)) (hpc : pc + 3 = pc') (kt : y < x → lm_St p l e R s m args below meth c D A nL ce sl Q ro w tgt lv st) (kf : ¬ (y < x) → lm_St p l e R s m args below meth c D A nL ce sl Q ro w pc' lv st) : lm_St p l e R s m args below meth c D A nL ce sl Q ro w pc lv (.int y :: .int x :: st) := by
  subst hpc
  exact fun H locs ls hI hL => lv_icmp_gt C.1 C.2.1 hd ht (fun h => kt h H locs ls hI hL) (fun h => kf h H locs ls hI hL)
theorem lm_icmp_le (C : lm_Cx p s m args c D z zo nL own Ts cc) {x y : Int32} {off : Int} {tgt : Nat} (hd : decode cc pc = .ok (.if_icmp .le off, 3)) (ht : (pc : Int) + off = (tgt : Int)) (hpc : pc + 3 = pc') (kt : x ≤ y → lm_St p l e R s m args below meth c D A nL ce sl Q ro w tgt lv st) (kf : ¬ (x ≤ y) → lm_St p l e R s m args below meth c D A nL ce sl Q ro w pc' lv st) : lm_St p l e R s m args below meth c D A nL ce sl Q ro w pc lv (.int y :: .int x :: st) := by
  subst hpc
  exact fun H locs ls hI hL => lv_icmp_le C.1 C.2.1 hd ht (fun h => kt h H locs ls hI hL) (fun h => kf h H locs ls hI hL)
theorem lm_goto (C : lm_Cx p s m args c D z zo nL own Ts cc) {off : Int} {tgt : Nat} (hd : decode cc pc = .ok (.goto off, 3)) (ht : (pc : Int) + off = (tgt : Int)) (K : lm_St p l e R s m args below meth c D A nL ce sl Q ro w tgt lv st) : lm_St p l e R s m args below meth c D A nL ce sl Q ro w pc lv st := fun H locs ls hI hL => lv_goto C.1 C.2.1 hd ht (K H locs ls hI hL)
theorem lm_ifnonnull (C : lm_Cx p s m args c D z zo nL own Ts cc) {x : Nat} {off : Int} {tgt : Nat} (hd : decode cc pc = .ok (.ifnonnull off, 3)) (ht : (pc : Int) + off = (tgt : Int)) (K : lm_St p l e R s m args below meth c D A nL ce sl Q ro w tgt lv st) : lm_St p l e R s m args below meth c D A nL ce sl Q ro w pc lv (.ref x :: st) := fun H locs ls hI hL => lv_ifnonnull C.1 C.2.1 hd ht (K H locs ls hI hL)
theorem lm_ifnonnullN (C : lm_Cx p s m args c D z zo nL own Ts cc) {off : Int} (hd : decode cc pc = .ok (.ifnonnull off, 3)) (hpc : pc + 3 = pc') (K : lm_St p l e R s m args below meth c D A nL ce sl Q ro w pc' lv st) : lm_St p l e R s m args below meth c D A nL ce sl Q ro w pc lv (.null :: st) := by
  subst hpc
  exact fun H locs ls hI hL => lv_ifnonnullN C.1 C.2.1 hd (K H locs ls hI hL)
theorem lm_ifnull (C : lm_Cx p s m args c D z zo nL own Ts cc) {x : Nat} {off : Int} (hd : decode cc pc = .ok (.ifnull off, 3)) (hpc : pc + 3 = pc') (K : lm_St p l e R s m args below meth c D A nL ce sl Q ro w pc' lv st) : lm_St p l e R s m args below meth c D A nL ce sl Q ro w pc lv (.ref x :: st) := by
  subst hpc
  exact fun H locs ls hI hL => lv_ifnull C.1 C.2.1 hd (K H locs ls hI hL)
theorem lm_ifnullN (C : lm_Cx p s m args c D z zo nL own Ts cc) {off : Int} {tgt : Nat} (hd : decode cc pc = .ok (.ifnull off, 3)) (ht : (pc : Int) + off = (tgt : Int)) (K : lm_St p l e R s m args below meth c D A nL ce sl Q ro w tgt lv st) : lm_St p l e R s m args below meth c D A nL ce sl Q ro w pc lv (.null :: st) := fun H locs ls hI hL => lv_ifnullN C.1 C.2.1 hd ht (K H locs ls hI hL)
theorem lm_tableIn (C : lm_Cx p s m args c D z zo nL own Ts cc) {dflt lo hi : Int} {offs : Array Int} {len : Nat} {x : Int32} {off : Int} {tgt : Nat} (v : Int32) (hd : decode cc pc = .ok (.tableswitch dflt lo hi offs, len)) (hx : x = v) (h1 : ¬ v.toInt < lo) (h2 : ¬ hi < v.toInt) (ho : offs[(v.toInt - lo).toNat]? = some off) (ht : (pc : Int) + off = (tgt : Int)) (K : lm_St p l e R s m args below meth c D A nL ce sl Q ro w tgt lv st) : lm_St p l e R s m args below meth c D A nL ce sl Q ro w pc lv (.int x :: st) := by
  subst hx
  exact fun H locs ls hI hL => lv_tableIn C.1 C.2.1 hd h1 h2 ho ht (K H locs ls hI hL)
theorem lm_tableOut (C : lm_Cx p s m args c D z zo nL own Ts cc) {dflt lo hi : Int} {offs : Array Int} {len : Nat} {x : Int32} {tgt : Nat} (hd : decode cc pc = .ok (.tableswitch dflt lo hi offs, len)) (h : x.toInt < lo ∨ hi < x.toInt) (ht : (pc : Int) + dflt = (tgt : Int)) (K : lm_St p l e R s m args below meth c D A nL ce sl Q ro w tgt lv st) : lm_St p l e R s m args below meth c D A nL ce sl Q ro w pc lv (.int x :: st) := fun H locs ls hI hL => lv_tableOut C.1 C.2.1 hd h ht (K H locs ls hI hL)
theorem lm_lookup (C : lm_Cx p s m args c D z zo nL own Ts cc) {dflt : Int} {ps : Array (Int × Int)} {len : Nat} {x : Int32} {off : Int} {tgt : Nat} (hd : decode cc pc = .ok (.lookupswitch dflt ps, len)) (hp : (ps.toList.zip (ps.toList.drop 1)).all (fun (a, next) => a.1 < next.1) = true) (ho : Op.lookupswitch.offset ps.toList dflt x.toInt = off) (ht : (pc : Int) + off = (tgt : Int)) (K : lm_St p l e R s m args below meth c D A nL ce sl Q ro w tgt lv st) : lm_St p l e R s m args below meth c D A nL ce sl Q ro w pc lv (.int x :: st) := fun H locs ls hI hL => lv_lookup C.1 C.2.1 hd hp ho ht (K H locs ls hI hL)
theorem lm_getf (C : lm_Cx p s m args c D z zo nL own Ts cc) {ref Cn : String} {T : u_T} {N ci index : Nat} (hin : ∀ w ∈ u_ws Cn T N, w ∈ Ts) (q0 : Nat) {a : Nat} {fs : List Value} (he : w[q0]? = some (a, .inr (ci, fs))) (hc : vwCl[ci]? = some (Cn, T, N)) (k : Nat) (hk : k < N) (hlink : Cond.fieldLink own index ref (T k).2.1 (T k).2.2.1 ∈ Ts) (hsame : (T k).1 = ref) {v : Value} (hv : fs[k]? = some v) (hd : decode cc pc = .ok (.getfield index, 3)) (hpc : pc + 3 = pc') (K : lm_St p l e R s m args below meth c D A nL ce sl Q ro w pc' lv (v :: st)) : lm_St p l e R s m args below meth c D A nL ce sl Q ro w pc lv (.ref a :: st) := by
  subst hpc
  exact fun H locs ls hI hL => va_get (D := D) C.1 C.2.1 C.2.2.2.2.1 hin C.2.2.2.1 C.2.2.2.2.2.1 hI.1 q0 he hc k hk (C.2.2.2.2.1 _ hlink) (fun _ h9 => hsame ▸ h9) hv hd (K H locs ls hI hL)
theorem lm_iald (C : lm_Cx p s m args c D z zo nL own Ts cc) (q0 : Nat) {a : Nat} {n : Nat} {f : Nat → Int32} (ha : w[q0]? = some (a, .inl (z, n, .inl f))) {i v : Int32} (hin : vp_in i n) (hv : f i.toNatClampNeg = v) (hd : decode cc pc = .ok (.iaload, 1)) (hpc : pc + 1 = pc') (K : lm_St p l e R s m args below meth c D A nL ce sl Q ro w pc' lv (.int v :: st)) : lm_St p l e R s m args below meth c D A nL ce sl Q ro w pc lv (.int i :: .ref a :: st) := by
  subst hpc hv
  exact fun H locs ls hI hL => va_iald (D := D) C.1 C.2.1 C.2.2.2.2.2.1 hI.1 q0 0 ha rfl hin hd (K H locs ls hI hL)
theorem lm_alen (C : lm_Cx p s m args c D z zo nL own Ts cc) (q0 : Nat) {a : Nat} {x : vp_A} (ha : w[q0]? = some (a, .inl (z, x))) {v : Int32} (hv : Int32.ofNat x.1 = v) (hd : decode cc pc = .ok (.arraylength, 1)) (hpc : pc + 1 = pc') (K : lm_St p l e R s m args below meth c D A nL ce sl Q ro w pc' lv (.int v :: st)) : lm_St p l e R s m args below meth c D A nL ce sl Q ro w pc lv (.ref a :: st) := by
  subst hpc
  exact fun H locs ls hI hL => va_alen (D := D) C.1 C.2.1 C.2.2.2.2.2.1 hI.1 q0 0 ha rfl hv hd (K H locs ls hI hL)
theorem lm_alenO (C : lm_Cx p s m args c D z zo nL own Ts cc) (q0 : Nat) {a : Nat} {x : vp_A} (ha : w[q0]? = some (a, .inl (zo, x))) {v : Int32} (hv : Int32.ofNat x.1 = v) (hd : decode cc pc = .ok (.arraylength, 1)) (hpc : pc + 1 = pc') (K : lm_St p l e R s m args below meth c D A nL ce sl Q ro w pc' lv (.int v :: st)) : lm_St p l e R s m args below meth c D A nL ce sl Q ro w pc lv (.ref a :: st) := by
  subst hpc
  exact fun H locs ls hI hL => va_alen (D := D) C.1 C.2.1 C.2.2.2.2.2.1 hI.1 q0 1 ha rfl hv hd (K H locs ls hI hL)
theorem lm_aald (C : lm_Cx p s m args c D z zo nL own Ts cc) (q0 : Nat) {a : Nat} {n : Nat} {f : Nat → Option Nat} (ha : w[q0]? = some (a, .inl (zo, n, .inr (.inr (.inr (.inr f)))))) {i : Int32} {v : Value} (hin : vp_in i n) (hv : va_rf (f i.toNatClampNeg) = v) (hd : decode cc pc = .ok (.aaload, 1)) (hpc : pc + 1 = pc') (K : lm_St p l e R s m args below meth c D A nL ce sl Q ro w pc' lv (v :: st)) : lm_St p l e R s m args below meth c D A nL ce sl Q ro w pc lv (.int i :: .ref a :: st) := by
  subst hpc hv
  exact fun H locs ls hI hL => va_aldq (D := D) C.1 C.2.1 C.2.2.2.2.2.1 hI.1 q0 1 ha rfl hin hd (K H locs ls hI hL)
theorem lm_putf (C : lm_Cx p s m args c D z zo nL own Ts cc) {ref Cn : String} {T : u_T} {N ci index : Nat} (hin : ∀ w ∈ u_ws Cn T N, w ∈ Ts) (ty0 : Nat → FieldType) (hty : ∀ k, k < N → parseFieldDescriptor (T k).2.2.1 = some (ty0 k)) (hnm : ∀ a, a < N → ∀ b, b < N → a ≠ b → (T a).2.1 ≠ (T b).2.1) (q0 : Nat) {a : Nat} {fs : List Value} (he : w[q0]? = some (a, .inr (ci, fs))) (hc : vwCl[ci]? = some (Cn, T, N)) (k : Nat) (hk : k < N) (hlink : Cond.fieldLink own index ref (T k).2.1 (T k).2.2.1 ∈ Ts) (hsame : (T k).1 = ref) (hfin : (T k).2.2.2 = false) {ty : FieldType} {v : Value} (hty2 : ty0 k = ty) (hn : narrow ty v = v) (hfit : fits ty v = true) (hl : k < fs.length) (hd : decode cc pc = .ok (.putfield index, 3)) (hw : w.set q0 (a, .inr (ci, fs.set k v)) = w') (hpc : pc + 3 = pc') (K : lm_St p l e R s m args below meth c D A nL ce sl Q false w' pc' lv st) : lm_St p l e R s m args below meth c D A nL ce sl Q false w pc lv (v :: .ref a :: st) := by
  subst hpc hw
  exact fun H locs ls hI hL => va_put (D := D) C.1 C.2.1 C.2.2.2.2.1 hin ty0 hty hnm C.2.2.2.1 C.2.2.2.2.2.1 hI.1 (hI.2.2 rfl).1 (hI.2.2 rfl).2 q0 he hc k hk (C.2.2.2.2.1 _ hlink) (fun _ h9 => hsame ▸ h9) hfin (by rw [hty k hk, hty2]) hn hfit hl hd (fun H1 locs1 hP hD hS => K H1 locs1 ls ⟨hP, fun h => (by cases h), fun _ => ⟨hD, hS⟩⟩ hL)
theorem lm_iast (C : lm_Cx p s m args c D z zo nL own Ts cc) (q0 : Nat) {a : Nat} {n : Nat} {f : Nat → Int32} (ha : w[q0]? = some (a, .inl (z, n, .inl f))) {i x : Int32} (hin : vp_in i n) (hd : decode cc pc = .ok (.iastore, 1)) (hw : w.set q0 (a, .inl (z, n, .inl (upd f i.toNatClampNeg x))) = w') (hpc : pc + 1 = pc') (K : lm_St p l e R s m args below meth c D A nL ce sl Q false w' pc' lv st) : lm_St p l e R s m args below meth c D A nL ce sl Q false w pc lv (.int x :: .int i :: .ref a :: st) := by
  subst hpc hw
  exact fun H locs ls hI hL => va_iast (D := D) C.1 C.2.1 C.2.2.2.2.2.1 hI.1 (hI.2.2 rfl).1 (hI.2.2 rfl).2 q0 0 ha rfl hin hd (fun H1 locs1 hP hD hS => K H1 locs1 ls ⟨hP, fun h => (by cases h), fun _ => ⟨hD, hS⟩⟩ hL)
theorem lm_iretR (C : lm_Cx p s m args c D z zo nL own Ts cc) (hr : meth.sig.returnType = some .int) (hk : meth.locks = false) {v : Int32} {rv : Option Value} (hv : rv = some (.int v)) (hd : decode cc pc = .ok (.ireturn, 1)) : lm_St p l e R s m args below meth c D (fun _ => False) nL 0 0 (lm_EndR below rv args s) true w pc lv [.int v] := by
  subst hv
  intro H locs ls hI hL
  obtain ⟨rfl, rfl⟩ := hI.2.1 rfl
  exact W.iret (v := v) C.1 C.2.1 hr (fun t ht hW => ⟨rfl, ht⟩) (fun q hq => absurd hq List.not_mem_nil) hd hk
theorem lm_zretR (C : lm_Cx p s m args c D z zo nL own Ts cc) (hr : meth.sig.returnType = some .boolean) (hk : meth.locks = false) {v : Int32} {rv : Option Value} (hb : narrow .boolean (.int v) = .int v) (hv : rv = some (.int v)) (hd : decode cc pc = .ok (.ireturn, 1)) : lm_St p l e R s m args below meth c D (fun _ => False) nL 0 0 (lm_EndR below rv args s) true w pc lv [.int v] := by
  subst hv
  intro H locs ls hI hL
  obtain ⟨rfl, rfl⟩ := hI.2.1 rfl
  exact W.zret (v := v) C.1 C.2.1 hr hb (fun t ht hW => ⟨rfl, ht⟩) (fun q hq => absurd hq List.not_mem_nil) hd hk
theorem lm_lretR (C : lm_Cx p s m args c D z zo nL own Ts cc) (hr : meth.sig.returnType = some .long) (hk : meth.locks = false) {v : Int64} {rv : Option Value} (hv : rv = some (.long v)) (hd : decode cc pc = .ok (.lreturn, 1)) : lm_St p l e R s m args below meth c D (fun _ => False) nL 0 0 (lm_EndR below rv args s) true w pc lv [.long v] := by
  subst hv
  intro H locs ls hI hL
  obtain ⟨rfl, rfl⟩ := hI.2.1 rfl
  exact W.lret (v := v) C.1 C.2.1 hr (fun t ht hW => ⟨rfl, ht⟩) (fun q hq => absurd hq List.not_mem_nil) hd hk
theorem lm_aretR (C : lm_Cx p s m args c D z zo nL own Ts cc) {rt : FieldType} (hr : meth.sig.returnType = some rt) (hk : meth.locks = false) (hrt : (∃ n, rt = .object n) ∨ ∃ t, rt = .array t) {v : Value} {rv : Option Value} (ha : v = .null ∨ ∃ a, v = .ref a) (hv : rv = some v) (hd : decode cc pc = .ok (.areturn, 1)) : lm_St p l e R s m args below meth c D (fun _ => False) nL 0 0 (lm_EndR below rv args s) true w pc lv [v] := by
  subst hv
  intro H locs ls hI hL
  obtain ⟨rfl, rfl⟩ := hI.2.1 rfl
  exact W.aret (v := v) C.1 C.2.1 hr hrt ha (fun t ht hW => ⟨rfl, ht⟩) (fun q hq => absurd hq List.not_mem_nil) hd hk
theorem lm_iret (C : lm_Cx p s m args c D z zo nL own Ts cc) {w0 : va_W} (hr : meth.sig.returnType = some .int) (hk : meth.locks = false) {v : Int32} {rv : Option Value} (hv : rv = some (.int v)) (hw : w = w') (hd : decode cc pc = .ok (.ireturn, 1)) : lm_St p l e R s m args below meth c D (va_A w0 s.heap.size) nL 0 0 (lm_End below D rv w0 w' args s) false w pc lv [.int v] := by
  subst hv hw
  intro H locs ls hI hL
  obtain ⟨hD, hS⟩ := hI.2.2 rfl
  exact W.iret (v := v) C.1 C.2.1 hr (fun t ht hW => ⟨⟨rfl, by rw [ht]; exact hI.1, hD⟩, hS.F ht⟩) hS.2.2 hd hk
theorem lm_zret (C : lm_Cx p s m args c D z zo nL own Ts cc) {w0 : va_W} (hr : meth.sig.returnType = some .boolean) (hk : meth.locks = false) {v : Int32} {rv : Option Value} (hb : narrow .boolean (.int v) = .int v) (hv : rv = some (.int v)) (hw : w = w') (hd : decode cc pc = .ok (.ireturn, 1)) : lm_St p l e R s m args below meth c D (va_A w0 s.heap.size) nL 0 0 (lm_End below D rv w0 w' args s) false w pc lv [.int v] := by
  subst hv hw
  intro H locs ls hI hL
  obtain ⟨hD, hS⟩ := hI.2.2 rfl
  exact W.zret (v := v) C.1 C.2.1 hr hb (fun t ht hW => ⟨⟨rfl, by rw [ht]; exact hI.1, hD⟩, hS.F ht⟩) hS.2.2 hd hk
theorem lm_vret (C : lm_Cx p s m args c D z zo nL own Ts cc) {w0 : va_W} (hr : meth.sig.returnType = none) (hk : meth.locks = false) {rv : Option Value} (hv : rv = none) (hw : w = w') (hd : decode cc pc = .ok (.return_, 1)) : lm_St p l e R s m args below meth c D (va_A w0 s.heap.size) nL 0 0 (lm_End below D rv w0 w' args s) false w pc lv [] := by
  subst hv hw
  intro H locs ls hI hL
  obtain ⟨hD, hS⟩ := hI.2.2 rfl
  exact W.vret C.1 C.2.1 hr (fun t ht hW => ⟨⟨rfl, by rw [ht]; exact hI.1, hD⟩, hS.F ht⟩) hS.2.2 hd hk
theorem lm_aret (C : lm_Cx p s m args c D z zo nL own Ts cc) {w0 : va_W} {rt : FieldType} (hr : meth.sig.returnType = some rt) (hk : meth.locks = false) (hrt : (∃ n, rt = .object n) ∨ ∃ t, rt = .array t) {v : Value} {rv : Option Value} (ha : v = .null ∨ ∃ a, v = .ref a) (hv : rv = some v) (hw : w = w') (hd : decode cc pc = .ok (.areturn, 1)) : lm_St p l e R s m args below meth c D (va_A w0 s.heap.size) nL 0 0 (lm_End below D rv w0 w' args s) false w pc lv [v] := by
  subst hv hw
  intro H locs ls hI hL
  obtain ⟨hD, hS⟩ := hI.2.2 rfl
  exact W.aret (v := v) C.1 C.2.1 hr hrt ha (fun t ht hW => ⟨⟨rfl, by rw [ht]; exact hI.1, hD⟩, hS.F ht⟩) hS.2.2 hd hk
theorem lm_Acall {wc wr : va_W} {H : Heap} {locs : List Loc} (hA : lm_AZ A s) (hp : w.Perm (wc ++ wr)) (hI : lm_I D A s false w H locs) : ∀ q, va_A wc H.size q → A q := by
  obtain ⟨hD, hS⟩ := hI.2.2 rfl
  intro q hq
  rcases hq with ⟨k, e9, hq⟩ | hq
  · exact (lm_D_iff.mp (lm_D_perm hp hD)).2 (q, e9) (List.mem_append_left _ (List.mem_of_getElem? hq))
  · exact hA.1 q (Nat.le_trans hS.1 hq)
theorem lm_Zs.go {H : Heap} {locs : List Loc} {U : State} {B : Nat → Prop} (hA : lm_AZ A s) (hS : va_S A s.heap H locs) (hvm : s.vm.Alike U.vm) (hU : U.heap = H) (hF : ∀ q, B q → A q) : lm_Zs B U U.heap := by
  rw [hU]
  exact ((hA.2.moved hvm).kept hS.2.1).narrow hF
theorem lm_getsH (C : lm_Cx p s m args c D z zo nL own Ts cc) {index : Nat} (hA : lm_AZ A s) (hlink : Cond.fieldLink own index RX4 "HIGHEST_SETTINGS" "[I" ∈ Ts) (hd : decode cc pc = .ok (.getstatic index, 3)) (hpc : pc + 3 = pc') (K : ∀ t : Nat, va_T .int t 5 (fun j => .int (lm_hsI j)) A s s.heap → lm_St p l e R s m args below meth c D A nL ce sl Q false w pc' lv (.ref t :: st)) : lm_St p l e R s m args below meth c D A nL ce sl Q false w pc lv st := by
  subst hpc
  obtain ⟨⟨t, h1, h2⟩, -⟩ := hA.2
  exact fun H locs ls hI hL => va_gets C.1 C.2.1 h1 (hI.2.2 rfl).2 C.2.2.2.1 (C.2.2.2.2.1 _ hlink) (fun _ h => h) hd (K t h2 H locs ls hI hL)
theorem lm_tiald (C : lm_Cx p s m args c D z zo nL own Ts cc) {t : Nat} {f : Nat → Int32} (hT : va_T .int t 5 (fun j => .int (f j)) A s s.heap) {i v : Int32} (hin : vp_in i 5) (hv : f i.toNatClampNeg = v) (hd : decode cc pc = .ok (.iaload, 1)) (hpc : pc + 1 = pc') (K : lm_St p l e R s m args below meth c D A nL ce sl Q false w pc' lv (.int v :: st)) : lm_St p l e R s m args below meth c D A nL ce sl Q false w pc lv (.int i :: .ref t :: st) := by
  subst hpc hv
  exact fun H locs ls hI hL => va_ti C.1 C.2.1 hT (hI.2.2 rfl).2 hin rfl hd (K H locs ls hI hL)
theorem lm_mmin (C : lm_Cx p s m args c D z zo nL own Ts cc) {index : Nat} (h0 : Cond.methodLink own index Lib.Math.min.name ∈ Ts) (h1 : Cond.static Lib.Math.min.name ∈ Ts) (h2 : Cond.initialized "java/lang/Math" ∈ Ts) (h3 : Cond.code Lib.Math.min.name Lib.Math.min.code 2 (some .int) ∈ Ts) (hf : 1 ≤ R.frames) (hlo : 21 ≤ R.locals) (hce : (decide (ce ≤ R.cells) && decide (sl ≤ R.slots)) = true) {x y : Int32} (hcat : (st.map fun v => v.category).sum ≤ 8) (hd : decode cc pc = .ok (.invokestatic index, 3)) (hpc : pc + 3 = pc') (K : lm_St p l e R s m args below meth c D A nL ce sl Q ro w pc' lv (.int (if y < x then y else x) :: st)) : lm_St p l e R s m args below meth c D A nL ce sl Q ro w pc lv (.int y :: .int x :: st) := by
  subst hpc
  simp only [Bool.and_eq_true, decide_eq_true_eq] at hce
  exact fun H locs ls hI hL => va_mmin C.1 C.2.1 (C.2.2.1.trans hL.1.symm) C.2.2.2.1 (C.2.2.2.2.1 _ h0) (C.2.2.2.2.1 _ h1) (C.2.2.2.2.1 _ h2) (C.2.2.2.2.1 _ h3) hf (by omega) hce.1 hce.2 hd (K H locs ls hI hL)
theorem lm_copyi (C : lm_Cx p s m args c D z zo nL own Ts cc) {index : Nat} (h0 : Cond.methodLink own index arraycopyName ∈ Ts) (h1 : Cond.native arraycopyName ∈ Ts) (h2 : Cond.static arraycopyName ∈ Ts) (h3 : Cond.initialized "java/lang/System" ∈ Ts) (q0 q1 : Nat) {a0 a n0 n1 : Nat} {f g : Nat → Int32} (ha0 : w[q0]? = some (a0, .inl (z, n0, .inl f))) (ha1 : w[q1]? = some (a, .inl (z, n1, .inl g))) {n : Nat} (hn : n < 2 ^ 31) (h4 : n ≤ n0) (h5 : n ≤ n1) {x : Int32} (hx : x = nI n) (hf : 1 ≤ R.frames) (hlo : 8 + (nativeFrameWords "java/lang/System" "arraycopy" 5 + 11) ≤ R.locals) (hcat : (st.map fun v => v.category).sum ≤ 8) (hd : decode cc pc = .ok (.invokestatic index, 3)) (hw : w.set q1 (a, .inl (z, n1, .inl (va_cpy f g 0 0 n))) = w') (hpc : pc + 3 = pc') (K : lm_St p l e R s m args below meth c D A nL ce sl Q false w' pc' lv st) : lm_St p l e R s m args below meth c D A nL ce sl Q false w pc lv (.int x :: .int 0 :: .ref a :: .int 0 :: .ref a0 :: st) := by
  subst hpc hw hx
  intro H locs ls hI hL
  have e0 : (0 : Int32).toNatClampNeg = 0 := sb_cl0
  have e1 : (nI n).toNatClampNeg = n := nI_clamp hn
  refine va_copyi (D := D) C.1 C.2.1 (C.2.2.1.trans hL.1.symm) C.2.2.2.1 (C.2.2.2.2.1 _ h0) (C.2.2.2.2.1 _ h1) (C.2.2.2.2.1 _ h2) (C.2.2.2.2.1 _ h3) C.2.2.2.2.2.1 hI.1 (hI.2.2 rfl).1 (hI.2.2 rfl).2 q0 q1 0 0 ha0 ha1 rfl rfl (ty := .int) rfl (by decide) (by decide) (nI_pos hn) (by rw [e0, e1]; omega) (by rw [e0, e1]; omega) (fun i _ => rfl) hf (by omega) hd (fun H1 locs1 hP hD hS => ?_)
  rw [e0, e1] at hP hD
  exact K H1 locs1 ls ⟨hP, fun h => (by cases h), fun _ => ⟨hD, hS⟩⟩ hL
theorem lm_goR {y : MethodName} {rv : Option Value} {As : List Value} {wc : va_W} {stk st' : List Value} {mcA : Array Value} (hrun : ∀ (H : Heap) (locs : List Loc) (ls : Array Slot), lm_I D A s ro w H locs → lv_has ls nL lv → va_Run p l e R s m args below meth c H locs ce sl 0 0 (F0 m pc ls stk) st (lm_QR rv mcA) (fun _ => False)) (hst : rv.toList ++ st = st') (hpc : pc + 3 = pc') (K : lm_St p l e R s m args below meth c D A nL ce sl Q ro w pc' lv st') : lm_St p l e R s m args below meth c D A nL ce sl Q ro w pc lv stk := by
  subst hpc hst
  intro H locs ls hI hL T hT X
  obtain ⟨v, st₀, t, T', L, h0, X', hf, e1, e2, ⟨hv, hh⟩, go⟩ := hrun H locs ls hI hL T hT X
  have hv2 : v = rv := by cases hv; rfl
  subst hv2
  have hL0 : L = [] := by
    cases L with
    | nil => rfl
    | cons a b => exact absurd (hf a List.mem_cons_self) id
  subst hL0
  rw [List.append_nil] at X'
  obtain ⟨t2, a1, b1⟩ := K H locs ls hI hL T' (by rw [e1, hh, h0]) X'
  exact ⟨t2, go t2 a1, b1⟩
theorem lm_goW {rv : Option Value} {wc wr w1 : va_W} {stk st' : List Value} {mcA : Array Value} (hA : lm_AZ A s) (hp : w.Perm (wc ++ wr)) (hp' : (w1 ++ wr).Perm w') (hrun : ∀ (H : Heap) (locs : List Loc) (ls : Array Slot), lm_I D A s false w H locs → lv_has ls nL lv → va_Run p l e R s m args below meth c H locs ce sl 0 0 (F0 m pc ls stk) st (lm_Q D rv wc w1 H.size mcA) (va_A wc H.size)) (hst : rv.toList ++ st = st') (hpc : pc + 3 = pc') (K : lm_St p l e R s m args below meth c D A nL ce sl Q false w' pc' lv st') : lm_St p l e R s m args below meth c D A nL ce sl Q false w pc lv stk := by
  subst hpc hst
  intro H locs ls hI hL T hT X
  obtain ⟨v, st₀, t, T', L, h0, X', hf, e1, e2, ⟨⟨hv, hP1, hD1⟩, hz, hk⟩, go⟩ := hrun H locs ls hI hL T hT X
  have hv2 : v = rv := by cases hv; rfl
  subst hv2
  rw [h0] at hz hk
  obtain ⟨hD, hS⟩ := hI.2.2 rfl
  have hPp := lm_P_perm hp hI.1
  have hDp := lm_D_perm hp hD
  have hF : ∀ q, va_A wc H.size q → A q := by
    intro q hq
    rcases hq with ⟨k, e9, hq⟩ | hq
    · exact (lm_D_iff.mp hDp).2 (q, e9) (List.mem_append_left _ (List.mem_of_getElem? hq))
    · exact hA.1 q (Nat.le_trans hS.1 hq)
  obtain ⟨hP2, hD2⟩ := lm_frame hPp hDp hk hF hP1 hD1
  have hS2 : va_S A s.heap t.heap (locs ++ L) := ⟨Nat.le_trans hS.1 hz, fun q h1 h2 => by rw [hk q (Nat.lt_of_lt_of_le h1 hS.1) (fun z9 => h2 (hF q z9))]; exact hS.2.1 q h1 h2, fun q hq => by
    rcases List.mem_append.mp hq with h | h
    · exact hS.2.2 q h
    · exact hF _ (hf q h)⟩
  obtain ⟨t2, a1, b1⟩ := K t.heap (locs ++ L) ls ⟨lm_P_perm hp' hP2, fun h => (by cases h), fun _ => ⟨lm_D_perm hp' hD2, hS2⟩⟩ hL T' e1 X'
  exact ⟨t2, go t2 a1, b1⟩
theorem lm_callVR (C : lm_Cx p s m args c D z zo nL own Ts cc) {y : MethodName} {bytes : ByteArray} {maxL : Nat} {ret : Option FieldType} {wsy wsy' : List Cond} {fr lo n index : Nat} {Cn : String} {b : Nat} {As : List Value} {wc : va_W} {rv : Option Value} {ci N : Nat} {T : u_T} {fs : List Value} {stk st' : List Value} (hM : lm_CR D z zo l y wsy fr lo (.ref b :: As) wc rv) (hG : GoodIn Ts (wsV own index Cn y wsy)) (hw : wsy = Cond.code y bytes maxL ret :: wsy') (hdv : y.cls = Cn ∧ y.cls ≠ "java/lang/invoke/MethodHandle" ∧ y.cls ≠ "java/lang/invoke/VarHandle" ∧ (parseMethodDescriptor y.desc).map (fun d => d.parameters.length) = some n) (hR : fr + 1 ≤ R.frames ∧ 8 + (maxL + 11) + lo ≤ R.locals) (hce : ce + 0 ≤ R.cells ∧ sl + 0 ≤ R.slots) (q0 : Nat) (he : w[q0]? = some (b, .inr (ci, fs))) (hc : vwCl[ci]? = some (Cn, T, N)) (hsub : ∀ q ∈ wc, q ∈ w) (hn : As.length = n) (hstk : stk = As.reverse ++ .ref b :: st) (hcat : (st.map fun v => v.category).sum ≤ 8) (hd : decode cc pc = .ok (.invokevirtual index, 3)) (hst : rv.toList ++ st = st') (hpc : pc + 3 = pc') (K : lm_St p l e R s m args below meth c D A nL ce sl Q ro w pc' lv st') : lm_St p l e R s m args below meth c D A nL ce sl Q ro w pc lv stk := by
  subst hstk
  refine lm_goR (y := y) (As := As) (wc := wc) (rv := rv) (mcA := (Value.ref b :: As).toArray) (fun H locs ls hI hL => ?_) hst hpc K
  exact va_runV (As := As) (rest := st) ⟨C.1, C.2.1, C.2.2.1, C.2.2.2.1, C.2.2.2.2.1⟩ hM (cwV n C.2.2.2.2.1 hG hw rfl rfl hdv hR) ⟨lm_PcR.blind, va_recv C.2.2.2.2.2.1 hI.1 hc he, fun U hU hW => ⟨rfl, by rw [hU]; exact lm_P_sub hI.1 hsub, va_K.moved hW.alike C.2.2.2.2.2.1, lm_NW.warm hW C.2.2.2.2.2.2⟩⟩ rfl hn hL.1 rfl (lv_room hcat) hd hce
theorem lm_callV (C : lm_Cx p s m args c D z zo nL own Ts cc) {y : MethodName} {bytes : ByteArray} {maxL : Nat} {ret : Option FieldType} {wsy wsy' : List Cond} {fr lo n index : Nat} {Cn : String} {b : Nat} {As : List Value} {wc wr w1 : va_W} {rv : Option Value} {ci N : Nat} {T : u_T} {fs : List Value} {stk st' : List Value} (hA : lm_AZ A s) (hM : lm_C D z zo l y wsy fr lo (.ref b :: As) wc rv w1) (hG : GoodIn Ts (wsV own index Cn y wsy)) (hw : wsy = Cond.code y bytes maxL ret :: wsy') (hdv : y.cls = Cn ∧ y.cls ≠ "java/lang/invoke/MethodHandle" ∧ y.cls ≠ "java/lang/invoke/VarHandle" ∧ (parseMethodDescriptor y.desc).map (fun d => d.parameters.length) = some n) (hR : fr + 1 ≤ R.frames ∧ 8 + (maxL + 11) + lo ≤ R.locals) (hce : ce + 0 ≤ R.cells ∧ sl + 0 ≤ R.slots) (q0 : Nat) (he : w[q0]? = some (b, .inr (ci, fs))) (hc : vwCl[ci]? = some (Cn, T, N)) (hp : w.Perm (wc ++ wr)) (hp' : (w1 ++ wr).Perm w') (hn : As.length = n) (hstk : stk = As.reverse ++ .ref b :: st) (hcat : (st.map fun v => v.category).sum ≤ 8) (hd : decode cc pc = .ok (.invokevirtual index, 3)) (hst : rv.toList ++ st = st') (hpc : pc + 3 = pc') (K : lm_St p l e R s m args below meth c D A nL ce sl Q false w' pc' lv st') : lm_St p l e R s m args below meth c D A nL ce sl Q false w pc lv stk := by
  subst hstk
  refine lm_goW (rv := rv) (wc := wc) (wr := wr) (w1 := w1) (mcA := (Value.ref b :: As).toArray) hA hp hp' (fun H locs ls hI hL => ?_) hst hpc K
  have hD := lm_D_iff.mp (lm_D_perm hp (hI.2.2 rfl).1)
  exact va_runV (As := As) (rest := st) ⟨C.1, C.2.1, C.2.2.1, C.2.2.2.1, C.2.2.2.2.1⟩ (hM H.size) (cwV n C.2.2.2.2.1 hG hw rfl rfl hdv hR) ⟨lm_Pc.blind, va_recv C.2.2.2.2.2.1 hI.1 hc he, fun U hU hW => ⟨rfl, by rw [hU], by rw [hU]; exact lm_P_sub (lm_P_perm hp hI.1) (fun q hq => List.mem_append_left _ hq), va_K.moved hW.alike C.2.2.2.2.2.1, lm_NW.warm hW C.2.2.2.2.2.2, lm_D_iff.mpr ⟨(List.nodup_append.mp (List.map_append ▸ hD.1)).1, fun _ _ => trivial⟩, lm_Zs.go hA (hI.2.2 rfl).2 hW.alike hU (lm_Acall hA hp hI)⟩⟩ rfl hn hL.1 rfl (lv_room hcat) hd hce
theorem lm_callSR (C : lm_Cx p s m args c D z zo nL own Ts cc) {y : MethodName} {bytes : ByteArray} {maxL : Nat} {ret : Option FieldType} {wsy wsy' : List Cond} {fr lo n index : Nat} {As : List Value} {wc : va_W} {rv : Option Value} {stk st' : List Value} (hM : lm_CR D z zo l y wsy fr lo As wc rv) (hG : GoodIn Ts (va_wsS own index y wsy)) (hw : wsy = Cond.code y bytes maxL ret :: wsy') (hdv : y.cls ≠ "java/lang/invoke/MethodHandle" ∧ y.cls ≠ "java/lang/invoke/VarHandle" ∧ (parseMethodDescriptor y.desc).map (fun d => d.parameters.length) = some n) (hR : fr + 1 ≤ R.frames ∧ 8 + (maxL + 11) + lo ≤ R.locals) (hce : ce + 0 ≤ R.cells ∧ sl + 0 ≤ R.slots) (hsub : ∀ q ∈ wc, q ∈ w) (hn : As.length = n) (hstk : stk = As.reverse ++ st) (hcat : (st.map fun v => v.category).sum ≤ 8) (hd : decode cc pc = .ok (.invokestatic index, 3)) (hst : rv.toList ++ st = st') (hpc : pc + 3 = pc') (K : lm_St p l e R s m args below meth c D A nL ce sl Q ro w pc' lv st') : lm_St p l e R s m args below meth c D A nL ce sl Q ro w pc lv stk := by
  subst hstk
  refine lm_goR (y := y) (As := As) (wc := wc) (rv := rv) (mcA := As.toArray) (fun H locs ls hI hL => ?_) hst hpc K
  exact va_runS (As := As) (rest := st) ⟨C.1, C.2.1, C.2.2.1, C.2.2.2.1, C.2.2.2.2.1⟩ hM (va_cwS n C.2.2.2.2.1 hG hw rfl rfl hdv hR) ⟨lm_PcR.blind, fun U hU hW => ⟨rfl, by rw [hU]; exact lm_P_sub hI.1 hsub, va_K.moved hW.alike C.2.2.2.2.2.1, lm_NW.warm hW C.2.2.2.2.2.2⟩⟩ rfl hn hL.1 rfl (lv_room hcat) hd hce
theorem lm_callSNR (C : lm_Cx p s m args c D z zo nL own Ts cc) {y : MethodName} {bytes : ByteArray} {maxL : Nat} {ret : Option FieldType} {wsy wsy' : List Cond} {fr lo n index : Nat} {As : List Value} {wc : va_W} {rv : Option Value} {stk st' : List Value} (hM : lm_CR D z zo l y wsy fr lo As wc rv) (hG : GoodIn Ts wsy) (hw : wsy = Cond.code y bytes maxL ret :: wsy') (hini : Cond.initialized y.cls ∈ Ts) (hstat : Cond.static y ∈ Ts) (hdv : y.cls ≠ "java/lang/invoke/MethodHandle" ∧ y.cls ≠ "java/lang/invoke/VarHandle" ∧ (parseMethodDescriptor y.desc).map (fun d => d.parameters.length) = some n) (hR : fr + 1 ≤ R.frames ∧ 8 + (maxL + 11) + lo ≤ R.locals) (hce : ce + 0 ≤ R.cells ∧ sl + 0 ≤ R.slots) (hnw : (own, index, y) ∈ lm_NWl) (hsub : ∀ q ∈ wc, q ∈ w) (hn : As.length = n) (hstk : stk = As.reverse ++ st) (hcat : (st.map fun v => v.category).sum ≤ 8) (hd : decode cc pc = .ok (.invokestatic index, 3)) (hst : rv.toList ++ st = st') (hpc : pc + 3 = pc') (K : lm_St p l e R s m args below meth c D A nL ce sl Q ro w pc' lv st') : lm_St p l e R s m args below meth c D A nL ce sl Q ro w pc lv stk := by
  subst hstk
  refine lm_goR (y := y) (As := As) (wc := wc) (rv := rv) (mcA := As.toArray) (fun H locs ls hI hL => ?_) hst hpc K
  exact va_runSN (As := As) (rest := st) ⟨C.1, C.2.1, C.2.2.1, C.2.2.2.1, C.2.2.2.2.1⟩ hM ⟨va_cnB (host := "LoopMemo") n C.2.2.2.2.1 hG hw rfl rfl (C.2.2.2.2.2.2 _ hnw) (C.2.2.2.2.1 _ hini) hdv hR, C.2.2.2.2.1 _ hstat, trivial⟩ ⟨lm_PcR.blind, fun U hU hW => ⟨rfl, by rw [hU]; exact lm_P_sub hI.1 hsub, va_K.moved hW.alike C.2.2.2.2.2.1, lm_NW.warm hW C.2.2.2.2.2.2⟩⟩ rfl hn hL.1 rfl (lv_room hcat) hd hce
theorem lm_callSN (C : lm_Cx p s m args c D z zo nL own Ts cc) {y : MethodName} {bytes : ByteArray} {maxL : Nat} {ret : Option FieldType} {wsy wsy' : List Cond} {fr lo n index : Nat} {As : List Value} {wc wr w1 : va_W} {rv : Option Value} {stk st' : List Value} (hA : lm_AZ A s) (hM : lm_C D z zo l y wsy fr lo As wc rv w1) (hG : GoodIn Ts wsy) (hw : wsy = Cond.code y bytes maxL ret :: wsy') (hini : Cond.initialized y.cls ∈ Ts) (hstat : Cond.static y ∈ Ts) (hdv : y.cls ≠ "java/lang/invoke/MethodHandle" ∧ y.cls ≠ "java/lang/invoke/VarHandle" ∧ (parseMethodDescriptor y.desc).map (fun d => d.parameters.length) = some n) (hR : fr + 1 ≤ R.frames ∧ 8 + (maxL + 11) + lo ≤ R.locals) (hce : ce + 0 ≤ R.cells ∧ sl + 0 ≤ R.slots) (hnw : (own, index, y) ∈ lm_NWl) (hp : w.Perm (wc ++ wr)) (hp' : (w1 ++ wr).Perm w') (hn : As.length = n) (hstk : stk = As.reverse ++ st) (hcat : (st.map fun v => v.category).sum ≤ 8) (hd : decode cc pc = .ok (.invokestatic index, 3)) (hst : rv.toList ++ st = st') (hpc : pc + 3 = pc') (K : lm_St p l e R s m args below meth c D A nL ce sl Q false w' pc' lv st') : lm_St p l e R s m args below meth c D A nL ce sl Q false w pc lv stk := by
  subst hstk
  refine lm_goW (rv := rv) (wc := wc) (wr := wr) (w1 := w1) (mcA := As.toArray) hA hp hp' (fun H locs ls hI hL => ?_) hst hpc K
  have hD := lm_D_iff.mp (lm_D_perm hp (hI.2.2 rfl).1)
  exact va_runSN (As := As) (rest := st) ⟨C.1, C.2.1, C.2.2.1, C.2.2.2.1, C.2.2.2.2.1⟩ (hM H.size) ⟨va_cnB (host := "LoopMemo") n C.2.2.2.2.1 hG hw rfl rfl (C.2.2.2.2.2.2 _ hnw) (C.2.2.2.2.1 _ hini) hdv hR, C.2.2.2.2.1 _ hstat, trivial⟩ ⟨lm_Pc.blind, fun U hU hW => ⟨rfl, by rw [hU], by rw [hU]; exact lm_P_sub (lm_P_perm hp hI.1) (fun q hq => List.mem_append_left _ hq), va_K.moved hW.alike C.2.2.2.2.2.1, lm_NW.warm hW C.2.2.2.2.2.2, lm_D_iff.mpr ⟨(List.nodup_append.mp (List.map_append ▸ hD.1)).1, fun _ _ => trivial⟩, lm_Zs.go hA (hI.2.2 rfl).2 hW.alike hU (lm_Acall hA hp hI)⟩⟩ rfl hn hL.1 rfl (lv_room hcat) hd hce
end LM
/-! how a method's function is read along a walk -/
def lm_br {α : Type} (c : Prop) [Decidable c] (a b : α) : α := if c then a else b
theorem lm_brt {α : Type} {c : Prop} [Decidable c] {a b y : α} (h : lm_br c a b = y) (hc : c) : a = y := by rw [← h]; exact (if_pos hc).symm
theorem lm_brf {α : Type} {c : Prop} [Decidable c] {a b y : α} (h : lm_br c a b = y) (hc : ¬ c) : b = y := by rw [← h]; exact (if_neg hc).symm
def lm_gi {α : Type} (i : Int32) (n : Nat) (x : Option α) : Option α := if i < 0 ∨ n ≤ i.toNatClampNeg then none else x
theorem lm_gie {α : Type} {i : Int32} {n : Nat} {x : Option α} {y : α} (h : lm_gi i n x = some y) : vp_in i n ∧ x = some y := by
  unfold lm_gi at h
  split at h
  · cases h
  · next hc => exact ⟨hc, h⟩
def lm_gd {α : Type} (c : Prop) [Decidable c] (x : Option α) : Option α := if c then x else none
theorem lm_gde {α : Type} {c : Prop} [Decidable c] {x : Option α} {y : α} (h : lm_gd c x = some y) : c ∧ x = some y := by
  unfold lm_gd at h
  split at h
  · next hc => exact ⟨hc, h⟩
  · cases h
def lm_bd {α β : Type} (o : Option α) (f : α → Option β) : Option β := match o with | none => none | some a => f a
theorem lm_bde {α β : Type} {o : Option α} {f : α → Option β} {y : β} (h : lm_bd o f = some y) : ∃ a, o = some a ∧ f a = some y := by
  cases o with
  | none => cases h
  | some a => exact ⟨a, rfl, h⟩
def lm_b2 {α β γ : Type} (o : Option (α × β)) (f : α → β → Option γ) : Option γ := match o with | none => none | some a => f a.1 a.2
theorem lm_b2e {α β γ : Type} {o : Option (α × β)} {f : α → β → Option γ} {y : γ} (h : lm_b2 o f = some y) : ∃ a b, o = some (a, b) ∧ f a b = some y := by
  cases o with
  | none => cases h
  | some a => exact ⟨a.1, a.2, rfl, h⟩
def lm_lt {α β : Type} (x : α) (f : α → β) : β := f x
theorem lm_lte {α β : Type} {x : α} {f : α → β} {y : β} (h : lm_lt x f = y) : ∃ a, x = a ∧ f a = y := ⟨x, rfl, h⟩
theorem lm_boolok {x : Int32} (h : x = 0 ∨ x = 1) : narrow .boolean (.int x) = .int x := by rcases h with rfl | rfl <;> rfl
theorem lm_boolfit {x : Int32} (h : x = 0 ∨ x = 1) : fits .boolean (.int x) = true := by rcases h with rfl | rfl <;> rfl
theorem lm_bool0 : narrow .boolean (.int 0) = .int 0 := rfl
theorem lm_bool1 : narrow .boolean (.int 1) = .int 1 := rfl
/-! blocks -/
def lm_u (σ : Hp) (c i : Nat) (x : Int32) : Hp := fun j => if j = c then upd (σ c) i x else σ j
def lm_ua (σ : Hp) (c : Nat) (f : Nat → Int32) : Hp := fun j => if j = c then f else σ j
def lm_uB (h : Nat → Hp) (k : Nat) (σ : Hp) : Nat → Hp := fun j => if j = k then σ else h j
theorem lm_pr {α : Type} {w : List α} : w.Perm (w ++ []) := by rw [List.append_nil]
theorem lm_pr' {α : Type} {w : List α} : (w ++ []).Perm w := by rw [List.append_nil]
def lm_sh {α : Type} (b : Nat) (f : Nat → α) : Nat → α := fun j => f (b + j)
def lm_sb (σ : Hp) (b n : Nat) (τ : Hp) : Hp := fun j => if b ≤ j ∧ j < b + n then τ (j - b) else σ j

