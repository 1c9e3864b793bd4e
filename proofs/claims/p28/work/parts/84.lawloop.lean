/-! the law: its loop -/
abbrev law_Cx (p : Program) (s : State) (m : MethodId) (b : Nat) (c : Code) (D : va_G) (z zo : ClassId) : Prop := lm_Cx p (s.setDrawn s.drawn) m #[Value.ref b] c D z zo 10 RL wsL_law cL_law
abbrev law_St (p : Program) (l : Launch) (e : Env) (s : State) (m : MethodId) (b : Nat) (below : List Frame) (meth : Method) (c : Code) (D : va_G) (k : Nat) (w : va_W) (pc : Nat) (lv : Lv) (st : List Value) : Prop := lm_St p l e room_1 (s.setDrawn s.drawn) m #[Value.ref b] below meth c D (fun q : Nat => s.heap.size ≤ q) 10 (147 + 2 * k) (1604 + 20 * k) (lw_Z below #[Value.ref b] s) false w pc lv st
abbrev law_lv (mm bb : Nat → Nat) (b k : Nat) : Lv := [(0, .ref b), (1, .ref (mm 0)), (2, .ref (bb 0)), (3, .ref (bb 1)), (4, .ref (bb 2)), (5, .ref (bb 3)), (6, .ref (bb 4)), (7, .ref (bb 5)), (8, .int (nI k))]
abbrev law_l9 (mm bb : Nat → Nat) (b k v : Nat) : Lv := [(0, .ref b), (1, .ref (mm 0)), (2, .ref (bb 0)), (3, .ref (bb 1)), (4, .ref (bb 2)), (5, .ref (bb 3)), (6, .ref (bb 4)), (7, .ref (bb 5)), (8, .int (nI k)), (9, .int (nI v))]
section LL2
variable {p : Program} {l : Launch} {e : Env} {s : State} {m : MethodId} {below : List Frame} {meth : Method} {c : Code} {D : va_G} {z zo : ClassId} {b L : Nat} {xs : Nat → Int32} {mm bb : Nat → Nat} {aa : Nat → Nat → Nat}
theorem lm_callX {R : Room} {args : Array Value} {A : Nat → Prop} {nL ce sl : Nat} {Q : State → Prop} {own : String} {Ts : List Cond} {cc : ByteArray} {w : va_W} {pc pc' : Nat} {lv : Lv} {st st' stk : List Value} (C : lm_Cx p s m args c D z zo nL own Ts cc) {k : Nat} {x : Int32} (hX : va_X b L xs s s.heap) (hbl : b < s.heap.size) (hbA : ¬ A b) {index : Nat} (hM : Met l yL_cell wsL_cell ({ frames := 0, cells := 0, slots := 0, locals := 0 }) (lm_PcX D z zo b L xs k) (lm_QR (some (.int x))) 0 0 (fun _ => False)) (hG : GoodIn Ts (va_wsS own index yL_cell wsL_cell)) (hR : 0 + 1 ≤ R.frames ∧ 8 + (2 + 11) + 0 ≤ R.locals) (hce : ce + 0 ≤ R.cells ∧ sl + 0 ≤ R.slots) (hstk : stk = .int (nI k) :: .ref b :: st) (hcat : (st.map fun v => v.category).sum ≤ 8) (hd : decode cc pc = .ok (.invokestatic index, 3)) (hst : .int x :: st = st') (hpc : pc + 3 = pc') (K : lm_St p l e R s m args below meth c D A nL ce sl Q false w pc' lv st') : lm_St p l e R s m args below meth c D A nL ce sl Q false w pc lv stk := by
  subst hstk
  refine lm_goR (y := yL_cell) (As := [.ref b, .int (nI k)]) (wc := w) (rv := some (.int x)) (mcA := ([.ref b, .int (nI k)] : List Value).toArray) (fun H locs ls hI hL => ?_) hst hpc K
  have hS := (hI.2.2 rfl).2
  exact va_runS (As := [.ref b, .int (nI k)]) (rest := st) ⟨C.1, C.2.1, C.2.2.1, C.2.2.2.1, C.2.2.2.2.1⟩ hM (va_cwS 2 C.2.2.2.2.1 hG rfl rfl rfl (by decide +kernel) hR) ⟨lm_PcX.blind, fun U hU hW => ⟨rfl, (hX.moved hW.alike).kept (by rw [hU]; exact hS.2.1 b hbl hbA), by rw [hU]; exact Nat.lt_of_lt_of_le hbl hS.1, va_K.moved hW.alike C.2.2.2.2.2.1, lm_NW.warm hW C.2.2.2.2.2.2⟩⟩ rfl rfl hL.1 rfl (lv_room hcat) hd hce
theorem law_room {k : Nat} (hk : k ≤ 61) : (147 + 2 * k + 0 ≤ room_1.cells ∧ 1604 + 20 * k + 0 ≤ room_1.slots) ∧ (147 + 2 * (k + 1) ≤ room_1.cells ∧ 1604 + 20 * (k + 1) ≤ room_1.slots) := by
  refine ⟨⟨?_, ?_⟩, ?_, ?_⟩
  · show _ ≤ 600000
    omega
  · show _ ≤ 7302250
    omega
  · show _ ≤ 600000
    omega
  · show _ ≤ 7302250
    omega
set_option maxRecDepth 100000 in
set_option maxHeartbeats 8000000 in
/-- from the deed on -/
theorem law_deed (C : law_Cx p s m b c D z zo) (hA : lm_AZ (fun q : Nat => s.heap.size ≤ q) (s.setDrawn s.drawn)) {k v w : Nat} (hk : k ≤ 61) (hv : v < 2147483648) (hw : w < 21) {h : Nat → Hp} (hGA : ∃ g, GA k (20 * k) h g) (K : ∀ h', (∃ g, GA (k + 1) (20 * (k + 1)) h' g) → law_St p l e s m b below meth c D (k + 1) (lwMW z zo mm aa bb h') 83 (law_lv mm bb b (k + 1)) []) : law_St p l e s m b below meth c D k (lwMW z zo mm aa bb h) 132 (law_l9 mm bb b k v) [.int (nI w), .ref (bb 5), .ref (bb 4), .ref (bb 3), .ref (bb 2), .ref (bb 1), .ref (bb 0), .ref (mm 0)] := by
  obtain ⟨g, hGA⟩ := hGA
  have hr := law_room hk
  have dv : nI v / (21 : Int32) = nI (v / 21) := nd_div (d := 21) hv (by omega) (by omega)
  obtain ⟨h', g', f1, f2⟩ := l_isActed hGA (by omega) (by omega) hw (y := v / 21) (Nat.lt_of_le_of_lt (Nat.div_le_self v 21) hv)
  have f3 := l_areTold f2
  have f4 := l_areRows f2
  refine lm_iload C dL_law_132 9 rfl rfl ?_
  refine lm_bipush C (v := (21 : Int32)) dL_law_134 (by decide) rfl ?_
  refine lm_idiv C dL_law_136 (by decide) dv rfl ?_
  refine lm_callS C (n := 9) (w' := lwMW z zo mm aa bb h') hA (m_L_isActed D z zo l mm aa bb h (nI w) (nI (v / 21)) 1 h' f1) gL_law_L_isActed rfl (by decide +kernel) ⟨Nat.le_of_ble_eq_true rfl, Nat.le_of_ble_eq_true rfl⟩ hr.1 lm_pr lm_pr' rfl rfl (Nat.le_of_ble_eq_true rfl) dL_law_137 (st' := [.int 1]) rfl rfl ?_
  refine lm_if_eq C (tgt := 173) dL_law_140 (by decide) rfl (fun c1 => absurd c1 (by decide)) (fun _ => ?_)
  refine lm_aload_n C dL_law_143 rfl 1 rfl rfl ?_
  refine lm_aload_n C dL_law_144 rfl 2 rfl rfl ?_
  refine lm_aload_n C dL_law_145 rfl 3 rfl rfl ?_
  refine lm_aload C dL_law_146 4 rfl rfl ?_
  refine lm_aload C dL_law_148 5 rfl rfl ?_
  refine lm_aload C dL_law_150 6 rfl rfl ?_
  refine lm_aload C dL_law_152 7 rfl rfl ?_
  refine lm_callSA C (n := 7) (ce' := 147 + 2 * (k + 1)) (sl' := 1604 + 20 * (k + 1)) hA (m_L_areTold D z zo l mm aa bb h' 1 f3) gL_law_L_areTold rfl (by decide +kernel) ⟨Nat.le_of_ble_eq_true rfl, Nat.le_of_ble_eq_true rfl⟩ (by omega) (by omega) hr.2 lm_pr rfl rfl (Nat.le_of_ble_eq_true rfl) dL_law_154 (st' := [.int 1]) rfl rfl ?_
  refine lm_if_eq C (tgt := 173) dL_law_157 (by decide) rfl (fun c1 => absurd c1 (by decide)) (fun _ => ?_)
  refine lm_aload_n C dL_law_160 rfl 1 rfl rfl ?_
  refine lm_aload_n C dL_law_161 rfl 2 rfl rfl ?_
  refine lm_aload_n C dL_law_162 rfl 3 rfl rfl ?_
  refine lm_aload C dL_law_163 4 rfl rfl ?_
  refine lm_aload C dL_law_165 5 rfl rfl ?_
  refine lm_callSR C (n := 5) (m_L_areRows D z zo l mm aa bb h' 1 f4) gL_law_L_areRows rfl (by decide +kernel) ⟨Nat.le_of_ble_eq_true rfl, Nat.le_of_ble_eq_true rfl⟩ hr.2 (fun _ h => h) rfl rfl (Nat.le_of_ble_eq_true rfl) dL_law_167 (st' := [.int 1]) rfl rfl ?_
  refine lm_if_ne C (tgt := 175) dL_law_170 (by decide) rfl (fun _ => ?_) (fun c1 => absurd (by decide) c1)
  refine lm_iinc C (lv' := law_l9 mm bb b (k + 1) v) (nI (k + 1)) dL_law_175 8 rfl (by rw [show Int32.ofInt 1 = nI 1 from by decide, nI_add]) (by decide) rfl [1, 2, 3, 4, 5, 6, 7, 8, 0, 9] rfl rfl ?_
  refine lm_goto C (tgt := 83) dL_law_178 (by decide) ?_
  refine lm_lvsub (lv' := law_lv mm bb b (k + 1)) [0, 1, 2, 3, 4, 5, 6, 7, 8] rfl ?_
  exact K h' ⟨g', f2⟩
set_option maxRecDepth 100000 in
set_option maxHeartbeats 8000000 in
theorem law_loop (C : law_Cx p s m b c D z zo) (hA : lm_AZ (fun q : Nat => s.heap.size ≤ q) (s.setDrawn s.drawn)) (hX : va_X b L xs s s.heap) (hbl : b < s.heap.size) (hL : L ≤ 260) (hr : meth.sig.returnType = ret) (hlocks : meth.locks = false) : ∀ (d k : Nat) (h : Nat → Hp), k + d = 62 → (∃ g, GA k (20 * k) h g) → law_St p l e s m b below meth c D k (lwMW z zo mm aa bb h) 83 (law_lv mm bb b k) [] := by
  have hd0 := Drawn.sameBut.refl s.drawn lw_cs
  intro d
  induction d with
  | zero =>
    intro k h hk hGA
    have hk62 : k = 62 := by omega
    subst hk62
    refine lm_iload C dL_law_83 8 rfl rfl ?_
    refine lm_bipush C (v := (62 : Int32)) dL_law_85 (by decide) rfl ?_
    refine lm_icmp_ge C (tgt := 181) dL_law_87 (by decide) rfl (fun _ => ?_) (fun c1 => absurd (by decide) c1)
    refine lm_iconst C (v := (1 : Int32)) dL_law_181 (by decide) rfl ?_
    intro H locs ls hI hL'
    refine va_forget (fun q hq => (hI.2.2 rfl).2.2.2 q hq) ?_
    refine W.widen (k := 600000) (n := 7302250) (Nat.le_of_ble_eq_true rfl) (Nat.le_of_ble_eq_true rfl) ?_
    exact lw_ret hd0 C.1 C.2.1 hr hlocks dL_law_182
  | succ d ih =>
    intro k h hk hGA
    have hk61 : k ≤ 61 := by omega
    have hro := law_room hk61
    obtain ⟨v, hv, ev⟩ := lw_mask (cl_v L xs k)
    refine lm_iload C dL_law_83 8 rfl rfl ?_
    refine lm_bipush C (v := (62 : Int32)) dL_law_85 (by decide) rfl ?_
    refine lm_icmp_ge C (tgt := 181) dL_law_87 (by decide) rfl (fun c1 => absurd c1 (show ¬ (62 : Int32) ≤ nI k from nI_ge (b := 62) (by omega) (by omega))) (fun _ => ?_)
    refine lm_aload_n C dL_law_90 rfl 0 rfl rfl ?_
    refine lm_iload C dL_law_91 8 rfl rfl ?_
    refine lm_callX C (x := cl_v L xs k) hX hbl (Nat.not_le.mpr hbl) (m_L_cell D z zo l b L xs k (by omega) (by omega)) gL_law_L_cell ⟨Nat.le_of_ble_eq_true rfl, Nat.le_of_ble_eq_true rfl⟩ hro.1 rfl (Nat.le_of_ble_eq_true rfl) dL_law_93 (st' := [.int (cl_v L xs k)]) rfl rfl ?_
    refine lm_ldc C (v := (2147483647 : Int32)) (by decide +kernel) dL_law_96 rfl ?_
    refine lm_iand C (v := nI v) dL_law_98 ev rfl ?_
    refine lm_istore C (lv' := law_l9 mm bb b k v) dL_law_99 (by decide) rfl [1, 2, 3, 4, 5, 6, 7, 8, 9, 0] rfl rfl ?_
    refine lm_aload_n C dL_law_101 rfl 1 rfl rfl ?_
    refine lm_aload_n C dL_law_102 rfl 2 rfl rfl ?_
    refine lm_aload_n C dL_law_103 rfl 3 rfl rfl ?_
    refine lm_aload C dL_law_104 4 rfl rfl ?_
    refine lm_aload C dL_law_106 5 rfl rfl ?_
    refine lm_aload C dL_law_108 6 rfl rfl ?_
    refine lm_aload C dL_law_110 7 rfl rfl ?_
    refine lm_iload C dL_law_112 8 rfl rfl ?_
    refine lm_bipush C (v := (10 : Int32)) dL_law_114 (by decide) rfl ?_
    have K := fun h' (q : ∃ g, GA (k + 1) (20 * (k + 1)) h' g) => ih (k + 1) h' (by omega) q
    refine lm_icmp_ge C (tgt := 127) dL_law_116 (by decide) rfl (fun _ => ?_) (fun _ => ?_)
    · refine lm_iload C dL_law_127 9 rfl rfl ?_
      refine lm_bipush C (v := (21 : Int32)) dL_law_129 (by decide) rfl ?_
      refine lm_irem C (v := nI (v % 21)) dL_law_131 (by decide) (nd_rem (d := 21) hv (by omega) (by omega)) rfl ?_
      exact law_deed C hA hk61 hv (by omega) hGA K
    · refine lm_iload C dL_law_119 9 rfl rfl ?_
      refine lm_bipush C (v := (7 : Int32)) dL_law_121 (by decide) rfl ?_
      refine lm_irem C (v := nI (v % 7)) dL_law_123 (by decide) (nd_rem (d := 7) hv (by omega) (by omega)) rfl ?_
      refine lm_goto C (tgt := 132) dL_law_124 (by decide) ?_
      exact law_deed C hA hk61 hv (by omega) hGA K
end LL2
