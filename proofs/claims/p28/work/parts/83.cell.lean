/-! the law: a cell of its script -/
def cl_v (L : Nat) (xs : Nat → Int32) (k : Nat) : Int32 := if k < L then xs k else 40503 * (nI k + 3)
def lm_PcX (D : va_G) (z zo : ClassId) (b L : Nat) (xs : Nat → Int32) (k : Nat) : Array Value → State → Prop := va_Pc [.ref b, .int (nI k)] (fun U => va_X b L xs U U.heap ∧ b < U.heap.size ∧ va_K D vwCl (lm_tys z zo) U ∧ lm_NW U)
theorem lm_PcX.blind {D : va_G} {z zo : ClassId} {b L : Nat} {xs : Nat → Int32} {k : Nat} : FrameBlind (lm_PcX D z zo b L xs k) := by
  intro a U g mk ⟨h1, h2, h3, h4, h5⟩
  exact ⟨h1, va_X.moved (u := U) (U := U.calling g mk a) (Vm.Alike.refl U.vm) h2, h3, va_K.moved (u := U) (U := U.calling g mk a) (Vm.Alike.refl U.vm) h4, lm_NW.same (u := U) (U := U.calling g mk a) rfl h5⟩
section LX
variable {p : Program} {l : Launch} {e : Env} {R : Room} {s : State} {m : MethodId} {args : Array Value} {below : List Frame} {meth : Method} {c : Code} {D : va_G} {z zo : ClassId} {A : Nat → Prop} {nL ce sl : Nat} {Q : State → Prop} {own : String} {Ts : List Cond} {cc : ByteArray} {w w' : va_W} {pc pc' : Nat} {lv lv' : Lv} {st : List Value}
theorem lm_sldR (C : lm_Cx p s m args c D z zo nL own Ts cc) {b L : Nat} {xs : Nat → Int32} (hX : va_X b L xs s s.heap) (hbl : b < s.heap.size) {i v : Int32} (hin : vp_in i L) (hv : xs i.toNatClampNeg = v) (hd : decode cc pc = .ok (.iaload, 1)) (hpc : pc + 1 = pc') (K : lm_St p l e R s m args below meth c D (fun _ => False) nL ce sl Q true w pc' lv (.int v :: st)) : lm_St p l e R s m args below meth c D (fun _ => False) nL ce sl Q true w pc lv (.int i :: .ref b :: st) := by
  subst hpc hv
  intro H locs ls hI hL
  obtain ⟨hH, hl⟩ := hI.2.1 rfl
  exact va_sld (A := fun _ => False) C.1 C.2.1 hX hbl (fun h => h) (by rw [hH, hl]; exact va_S.rf) hin hd (K H locs ls hI hL)
theorem lm_slenR (C : lm_Cx p s m args c D z zo nL own Ts cc) {b L : Nat} {xs : Nat → Int32} (hX : va_X b L xs s s.heap) (hbl : b < s.heap.size) (hd : decode cc pc = .ok (.arraylength, 1)) (hpc : pc + 1 = pc') (K : lm_St p l e R s m args below meth c D (fun _ => False) nL ce sl Q true w pc' lv (.int (nI L) :: st)) : lm_St p l e R s m args below meth c D (fun _ => False) nL ce sl Q true w pc lv (.ref b :: st) := by
  subst hpc
  intro H locs ls hI hL
  obtain ⟨hH, hl⟩ := hI.2.1 rfl
  exact va_slen (A := fun _ => False) C.1 C.2.1 hX hbl (fun h => h) (by rw [hH, hl]; exact va_S.rf) hd (K H locs ls hI hL)
end LX
set_option maxRecDepth 100000 in
set_option maxHeartbeats 4000000 in
theorem m_L_cell (D : va_G) (z zo : ClassId) (l : Launch) (b L : Nat) (xs : Nat → Int32) (k : Nat) (hL31 : L < 2147483648) (hk : k < 2147483648) : Met l yL_cell wsL_cell ({ frames := 0, cells := 0, slots := 0, locals := 0 }) (lm_PcX D z zo b L xs k) (lm_QR (some (.int (cl_v L xs k)))) 0 0 (fun _ => False) := by
  refine Met.ofW (cc := cL_cell) (maxL := 2) (ret := some .int) (by decide) rfl ?_
  intro p e s m args below meth c s₁ B hml hv
  obtain ⟨rfl, hX, hbl, hK, hN⟩ := hv
  have hts := atoms_spec (ws := wsL_cell) B.pre
  have hown2 : s.vm.findClass RL = some m.cls := findClass_of_methodNamed B.named
  have hl := lv_entry ([.ref b, .int (nI k)] : List Value) (n := 2) (Nat.le_of_ble_eq_true rfl)
  rw [lg_entry_eq]
  have C : lm_Cx p s m ([.ref b, .int (nI k)] : List Value).toArray c D z zo 2 RL wsL_cell cL_cell := ⟨B.exec, B.bytes, hml, hown2, hts, hK, hN⟩
  have hr := B.returns
  have hlk := B.notSynchronized
  have main : lm_St p l e ({ frames := 0, cells := 0, slots := 0, locals := 0 }) s m ([.ref b, .int (nI k)] : List Value).toArray below meth c D (fun _ => False) 2 0 0 (lm_EndR below (some (.int (cl_v L xs k))) ([.ref b, .int (nI k)] : List Value).toArray s) true [] 0 [(0, .ref b), (1, .int (nI k))] [] := by
    refine lm_iload_n C dL_cell_0 rfl 1 rfl rfl ?_
    refine lm_aload_n C dL_cell_1 rfl 0 rfl rfl ?_
    refine lm_slenR C hX hbl dL_cell_2 rfl ?_
    refine lm_icmp_ge C (tgt := 12) dL_cell_3 (by decide) rfl (fun c1 => ?_) (fun c1 => ?_)
    · refine lm_ldc C (v := (40503 : Int32)) (by decide +kernel) dL_cell_12 rfl ?_
      refine lm_iload_n C dL_cell_14 rfl 1 rfl rfl ?_
      refine lm_iconst C (v := (3 : Int32)) dL_cell_15 (by decide) rfl ?_
      refine lm_iadd C (v := nI k + 3) dL_cell_16 rfl rfl ?_
      refine lm_imul C (v := 40503 * (nI k + 3)) dL_cell_17 rfl rfl ?_
      exact lm_iretR C hr hlk (by
        unfold cl_v
        rw [if_neg (fun q => nI_ge q (by omega) c1)]) dL_cell_18
    · have q : k < L := by
        rcases Nat.lt_or_ge k L with q | q
        · exact q
        · exact absurd (nI_le q (by omega)) c1
      refine lm_aload_n C dL_cell_6 rfl 0 rfl rfl ?_
      refine lm_iload_n C dL_cell_7 rfl 1 rfl rfl ?_
      refine lm_sldR C (v := xs k) hX hbl (vp_in_nI q (by omega)) (by rw [nI_clamp (by omega)]) dL_cell_8 rfl ?_
      refine lm_goto C (tgt := 18) dL_cell_9 (by decide) ?_
      exact lm_iretR C hr hlk (by
        unfold cl_v
        rw [if_pos q]) dL_cell_18
  exact main s.heap [] _ ⟨fun k q h => by simp at h, fun _ => ⟨rfl, rfl⟩, fun h => (by cases h)⟩ hl
theorem lw_mask (x : Int32) : ∃ k, k < 2147483648 ∧ x &&& 2147483647 = nI k := by
  have e : x = nI x.toBitVec.toNat := by
    apply Int32.toBitVec_inj.1
    show x.toBitVec = BitVec.ofNat 32 x.toBitVec.toNat
    simp
  refine ⟨x.toBitVec.toNat % 2 ^ 31, Nat.mod_lt _ (by omega), ?_⟩
  apply Int32.toBitVec_inj.1
  show x.toBitVec &&& BitVec.ofNat 32 (2 ^ 31 - 1) = BitVec.ofNat 32 (x.toBitVec.toNat % 2 ^ 31)
  apply BitVec.eq_of_toNat_eq
  rw [BitVec.toNat_and, BitVec.toNat_ofNat, BitVec.toNat_ofNat, show (2 ^ 31 - 1) % 2 ^ 32 = 2 ^ 31 - 1 from by decide, Nat.and_two_pow_sub_one_eq_mod]
  omega
