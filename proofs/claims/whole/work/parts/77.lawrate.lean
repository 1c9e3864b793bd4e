/-! the law: the rates; its end -/
section LR1
variable {p : Program} {l : Launch} {e : Env} {R : Room} {s : State} {m : MethodId} {args : Array Value} {below : List Frame} {meth : Method} {c : Code} {D : va_G} {z zo : ClassId} {A : Nat → Prop} {nL ce sl : Nat} {Q : State → Prop} {own : String} {Ts : List Cond} {cc : ByteArray} {ro : Bool} {w w' : va_W} {pc pc' : Nat} {lv lv' : Lv} {st : List Value} {d0 : Drawn}
theorem lm_drop (ks : List Nat) (hq : lv_pick lv ks = lv') (K : lm_St p l e R s m args below meth c D A nL ce sl Q ro w pc lv' st) : lm_St p l e R s m args below meth c D A nL ce sl Q ro w pc lv st := fun H locs ls hI hL => K H locs ls hI (lv_sub hL ks hq)
theorem lm_callVD (C : lm_Cx p (s.setDrawn d0) m args c D z zo nL own Ts cc) (hd0 : s.drawn.sameBut d0 lw_cs) {y : MethodName} {bytes : ByteArray} {maxL : Nat} {wsy wsy' : List Cond} {fr lo index : Nat} {Cn : String} {b : Nat} {wc : va_W} {ci N : Nat} {TT : u_T} {fs : List Value} {P : UInt64 → Prop} (hM : lm_CD D z zo l y wsy fr lo [.ref b] wc P) (hG : GoodIn Ts (wsV own index Cn y wsy)) (hw : wsy = Cond.code y bytes maxL (some .double) :: wsy') (hdv : y.cls = Cn ∧ y.cls ≠ "java/lang/invoke/MethodHandle" ∧ y.cls ≠ "java/lang/invoke/VarHandle" ∧ (parseMethodDescriptor y.desc).map (fun d => d.parameters.length) = some 0) (hR : fr + 1 ≤ R.frames ∧ 8 + (maxL + 11) + lo ≤ R.locals) (hce : ce + 0 ≤ R.cells ∧ sl + 0 ≤ R.slots) (q0 : Nat) (he : w[q0]? = some (b, .inr (ci, fs))) (hc : vwCl[ci]? = some (Cn, TT, N)) (hsub : ∀ q ∈ wc, q ∈ w) (hcat : (st.map fun v => v.category).sum ≤ 8) (hd : decode cc pc = .ok (.invokevirtual index, 3)) (hpc : pc + 3 = pc') (K : ∀ (r : UInt64) (d1 : Drawn), s.drawn.sameBut d1 lw_cs → P r → lm_St p l e R (s.setDrawn d1) m args below meth c D A nL ce sl Q false w pc' lv (.double r :: st)) : lm_St p l e R (s.setDrawn d0) m args below meth c D A nL ce sl Q false w pc lv (.ref b :: st) := by
  subst hpc
  intro H locs ls hI hL T hT X
  obtain ⟨hDd, hS⟩ := hI.2.2 rfl
  obtain ⟨v, st₀, t, T', L, d', hd', h0, X', hf, e1, e2, ⟨r, hv, hP, hh⟩, go⟩ := va_runV_D (As := []) (rest := st) ⟨C.1, C.2.1, C.2.2.1, C.2.2.2.1, C.2.2.2.2.1⟩ hM (cwV 0 C.2.2.2.2.1 hG hw rfl rfl hdv hR) ⟨lm_PcR.blind, va_recv C.2.2.2.2.2.1 hI.1 hc he, fun U hU hW => ⟨rfl, by rw [hU]; exact lm_P_sub hI.1 hsub, va_K.moved hW.alike C.2.2.2.2.2.1, lm_NW.warm hW C.2.2.2.2.2.2⟩⟩ rfl rfl hL.1 rfl (lv_room hcat) hd hce T hT X
  cases hv
  have hs : s.drawn.sameBut d' lw_cs := Drawn.sameBut.trans hd0 hd'
  have ht : t.heap = H := hh.trans h0
  obtain ⟨t2, a1, b1⟩ := K r d' hs hP t.heap (locs ++ L) ls ⟨by rw [ht]; exact hI.1, fun h => (by cases h), fun _ => ⟨hDd, by rw [ht]; exact ⟨hS.1, hS.2.1, fun q hq => by
    rcases List.mem_append.mp hq with h | h
    · exact hS.2.2 q h
    · exact (hf q h).elim⟩⟩⟩ hL T' e1 X'
  exact ⟨t2, go t2 a1, b1⟩
end LR1
section LR2
variable {p : Program} {l : Launch} {e : Env} {s : State} {m : MethodId} {below : List Frame} {meth : Method} {c : Code} {D : va_G} {z zo : ClassId} {b L i : Nat} {xs : Nat → Int32} {d0 : Drawn} {Q : State → Prop} {mm am : Nat → Nat} {aa : Nat → Nat → Nat} {h h' : Nat → Hp} {μ μ' : Hp}
set_option maxRecDepth 100000 in
set_option maxHeartbeats 4000000 in
theorem law_rate (C : ∀ d, law_Cx p s m b c D z zo d) (hd0 : s.drawn.sameBut d0 lw_cs) (hxy : h 0 16 0 = μ 1 9 ∧ h 0 16 1 = μ 1 10) (K : ∀ d, s.drawn.sameBut d lw_cs → law_St p l e s m b below meth c D Q d (mdW z am μ ++ lmW z zo mm aa h) 835 (law_lv mm am b i) []) : law_St p l e s m b below meth c D Q d0 (mdW z am μ ++ lmW z zo mm aa h) 686 (law_lv mm am b i) [] := by
  refine lm_aload_n (C d0) dL_law_686 rfl 2 rfl rfl ?_
  refine lm_callVD (C d0) hd0 (ci := 6) (m_X6_rate D z zo l mm aa h) gL_law_X6_rate rfl (by decide +kernel) ⟨Nat.le_of_ble_eq_true rfl, Nat.le_of_ble_eq_true rfl⟩ ⟨Nat.le_of_ble_eq_true rfl, Nat.le_of_ble_eq_true rfl⟩ 8 rfl rfl (fun q hq => List.mem_append_right _ hq) (Nat.le_of_ble_eq_true rfl) dL_law_687 rfl (fun q d1 hd1 hq => ?_)
  refine lm_dstore (lv' := [(4, .double q), (3, .int (nI i)), (2, .ref (am 0)), (1, .ref (mm 0)), (0, .ref b)]) (C d1) dL_law_690 (by decide) rfl rfl ?_
  refine lm_aload_n (C d1) dL_law_692 rfl 2 rfl rfl ?_
  refine lm_callVD (C d1) hd1 (ci := 7) (m_X7_rate D z zo l am μ) gL_law_X7_rate rfl (by decide +kernel) ⟨Nat.le_of_ble_eq_true rfl, Nat.le_of_ble_eq_true rfl⟩ ⟨Nat.le_of_ble_eq_true rfl, Nat.le_of_ble_eq_true rfl⟩ 0 rfl rfl (fun q hq => List.mem_append_left _ hq) (Nat.le_of_ble_eq_true rfl) dL_law_693 rfl (fun r d2 hd2 hr => ?_)
  rw [hxy.1, hxy.2] at hq
  refine lm_dstore (lv' := [(6, .double r), (4, .double q), (3, .int (nI i)), (2, .ref (am 0)), (1, .ref (mm 0)), (0, .ref b)]) (C d2) dL_law_696 (by decide) rfl rfl ?_
  refine lm_dload (C d2) dL_law_698 1 rfl rfl ?_
  refine lm_dload (C d2) dL_law_700 0 rfl rfl ?_
  refine lm_dcmp (C d2) dL_law_702 rfl rfl ?_
  have fin : law_St p l e s m b below meth c D Q d2 (mdW z am μ ++ lmW z zo mm aa h) 724 [(6, .double r), (4, .double q), (3, .int (nI i)), (2, .ref (am 0)), (1, .ref (mm 0)), (0, .ref b)] [] := by
    refine lm_goto (C d2) (tgt := 835) dL_law_724 (by decide) ?_
    exact lm_drop [2, 3, 4, 5] rfl (K d2 hd2)
  refine lm_if_eq (C d2) (tgt := 724) dL_law_703 (by decide) rfl (fun _ => fin) (fun c1 => ?_)
  refine lm_dload (C d2) dL_law_706 1 rfl rfl ?_
  refine lm_dload (C d2) dL_law_708 1 rfl rfl ?_
  refine lm_dcmp (C d2) dL_law_710 rfl rfl ?_
  refine lm_if_eq (C d2) (tgt := 722) dL_law_711 (by decide) rfl (fun c2 => absurd c2 (rP_sym hq hr c1)) (fun _ => ?_)
  refine lm_dload (C d2) dL_law_714 0 rfl rfl ?_
  refine lm_dload (C d2) dL_law_716 0 rfl rfl ?_
  refine lm_dcmp (C d2) dL_law_718 rfl rfl ?_
  exact lm_if_ne (C d2) (tgt := 724) dL_law_719 (by decide) rfl (fun _ => fin) (fun c3 => absurd (rP_symm hq hr c1) c3)
end LR2
