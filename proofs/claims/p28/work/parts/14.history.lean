section LM
variable {p : Program} {l : Launch} {e : Env} {R : Room} {s : State} {m : MethodId} {args : Array Value} {below : List Frame} {meth : Method} {c : Code} {D : va_G} {z zo : ClassId} {A : Nat → Prop} {nL ce sl : Nat} {Q : State → Prop} {own : String} {Ts : List Cond} {cc : ByteArray} {ro : Bool} {w w' : va_W} {pc pc' : Nat} {lv lv' : Lv} {st : List Value}
theorem lm_aload_nN (C : lm_Cx p s m args c D z zo nL own Ts cc) {k : Fin 4} {i : Nat} (hd : decode cc pc = .ok (.aload_n k, 1)) (hi : (k : Nat) = i) (q : Nat) (hl : lv[q]? = some (i, .null)) (hpc : pc + 1 = pc') (K : lm_St p l e R s m args below meth c D A nL ce sl Q ro w pc' lv (.null :: st)) : lm_St p l e R s m args below meth c D A nL ce sl Q ro w pc lv st := by
  subst hpc
  exact fun H locs ls hI hL => lv_aload_nN C.1 C.2.1 hd hi (lv_at hL q hl) (K H locs ls hI hL)
theorem lm_astore_nN (C : lm_Cx p s m args c D z zo nL own Ts cc) {k : Fin 4} {i : Nat}  {lv1 : Lv} (hd : decode cc pc = .ok (.astore_n k, 1)) (hi : (k : Nat) = i) (hn : i < nL) (hl : (i, Value.null) :: lv.filter (fun q => !(q.1 == i) && !(q.1 + 1 == i && q.2.category == 2)) = lv1) (ks : List Nat) (hq : lv_pick lv1 ks = lv') (hpc : pc + 1 = pc') (K : lm_St p l e R s m args below meth c D A nL ce sl Q ro w pc' lv' st) : lm_St p l e R s m args below meth c D A nL ce sl Q ro w pc lv (Value.null :: st) := by
  subst hpc
  exact fun H locs ls hI hL => lv_astore_nN C.1 C.2.1 hd hi hL hn hl (fun ls hl => K H locs ls hI (lv_sub hl ks hq))
end LM
theorem in1_X1_slot : ∀ w ∈ u_ws RX1 TX1 3, w ∈ wsX1_slot := by decide +kernel
theorem fl13_X1_slot : Cond.fieldLink RX1 13 "LoopMemo$History" "slots" "[LLoopMemo$State;" ∈ wsX1_slot := by decide +kernel
set_option maxRecDepth 100000 in
set_option maxHeartbeats 4000000 in
theorem m_X1_slot_0 (D : va_G) (z zo : ClassId) (l : Launch) (m : Nat → Nat) (a : Nat → Nat → Nat) (h : Nat → Hp) : lm_CR D z zo l yX1_slot wsX1_slot 0 0 [.ref (m 3), .int (0 : Int32)] (lmW z zo m a h) (some (.ref (a 3 0))) := by
  refine lm_CR.of (by decide) rfl (Nat.le_of_ble_eq_true rfl) (own := RX1) rfl ?_
  intro p e s m_ args below meth c C hr hk
  refine lm_iload_n C dX1_slot_0 rfl 1 rfl rfl ?_
  refine lm_if_lt C (tgt := 22) dX1_slot_1 (by decide) rfl (fun c1 => ?_) (fun c1 => ?_)
  · exact absurd c1 (by decide)
  · refine lm_iload_n C dX1_slot_4 rfl 1 rfl rfl ?_
    refine lm_aload_n C dX1_slot_5 rfl 0 rfl rfl ?_
    refine lm_getf C (T := TX1) (N := 3) (v := .ref (m 4)) in1_X1_slot 3 rfl rfl 0 (by decide) fl13_X1_slot rfl rfl dX1_slot_6 rfl ?_
    refine lm_alenO C (v := (5 : Int32)) 4 rfl rfl dX1_slot_9 rfl ?_
    refine lm_icmp_ge C (tgt := 22) dX1_slot_10 (by decide) rfl (fun c2 => ?_) (fun c2 => ?_)
    · exact absurd c2 (by decide)
    · refine lm_aload_n C dX1_slot_13 rfl 0 rfl rfl ?_
      refine lm_getf C (T := TX1) (N := 3) (v := .ref (m 4)) in1_X1_slot 3 rfl rfl 0 (by decide) fl13_X1_slot rfl rfl dX1_slot_14 rfl ?_
      refine lm_iload_n C dX1_slot_17 rfl 1 rfl rfl ?_
      refine lm_aald C (v := .ref (a 3 0)) 4 rfl (by unfold vp_in; decide) rfl dX1_slot_18 rfl ?_
      refine lm_goto C (tgt := 23) dX1_slot_19 (by decide) ?_
      exact lm_aretR C hr hk (Or.inl ⟨_, rfl⟩) (Or.inr ⟨_, rfl⟩) rfl dX1_slot_23
set_option maxRecDepth 100000 in
set_option maxHeartbeats 4000000 in
theorem m_X1_slot_1 (D : va_G) (z zo : ClassId) (l : Launch) (m : Nat → Nat) (a : Nat → Nat → Nat) (h : Nat → Hp) : lm_CR D z zo l yX1_slot wsX1_slot 0 0 [.ref (m 3), .int (1 : Int32)] (lmW z zo m a h) (some (.ref (a 4 0))) := by
  refine lm_CR.of (by decide) rfl (Nat.le_of_ble_eq_true rfl) (own := RX1) rfl ?_
  intro p e s m_ args below meth c C hr hk
  refine lm_iload_n C dX1_slot_0 rfl 1 rfl rfl ?_
  refine lm_if_lt C (tgt := 22) dX1_slot_1 (by decide) rfl (fun c1 => ?_) (fun c1 => ?_)
  · exact absurd c1 (by decide)
  · refine lm_iload_n C dX1_slot_4 rfl 1 rfl rfl ?_
    refine lm_aload_n C dX1_slot_5 rfl 0 rfl rfl ?_
    refine lm_getf C (T := TX1) (N := 3) (v := .ref (m 4)) in1_X1_slot 3 rfl rfl 0 (by decide) fl13_X1_slot rfl rfl dX1_slot_6 rfl ?_
    refine lm_alenO C (v := (5 : Int32)) 4 rfl rfl dX1_slot_9 rfl ?_
    refine lm_icmp_ge C (tgt := 22) dX1_slot_10 (by decide) rfl (fun c2 => ?_) (fun c2 => ?_)
    · exact absurd c2 (by decide)
    · refine lm_aload_n C dX1_slot_13 rfl 0 rfl rfl ?_
      refine lm_getf C (T := TX1) (N := 3) (v := .ref (m 4)) in1_X1_slot 3 rfl rfl 0 (by decide) fl13_X1_slot rfl rfl dX1_slot_14 rfl ?_
      refine lm_iload_n C dX1_slot_17 rfl 1 rfl rfl ?_
      refine lm_aald C (v := .ref (a 4 0)) 4 rfl (by unfold vp_in; decide) rfl dX1_slot_18 rfl ?_
      refine lm_goto C (tgt := 23) dX1_slot_19 (by decide) ?_
      exact lm_aretR C hr hk (Or.inl ⟨_, rfl⟩) (Or.inr ⟨_, rfl⟩) rfl dX1_slot_23
set_option maxRecDepth 100000 in
set_option maxHeartbeats 4000000 in
theorem m_X1_slot_2 (D : va_G) (z zo : ClassId) (l : Launch) (m : Nat → Nat) (a : Nat → Nat → Nat) (h : Nat → Hp) : lm_CR D z zo l yX1_slot wsX1_slot 0 0 [.ref (m 3), .int (2 : Int32)] (lmW z zo m a h) (some (.ref (a 5 0))) := by
  refine lm_CR.of (by decide) rfl (Nat.le_of_ble_eq_true rfl) (own := RX1) rfl ?_
  intro p e s m_ args below meth c C hr hk
  refine lm_iload_n C dX1_slot_0 rfl 1 rfl rfl ?_
  refine lm_if_lt C (tgt := 22) dX1_slot_1 (by decide) rfl (fun c1 => ?_) (fun c1 => ?_)
  · exact absurd c1 (by decide)
  · refine lm_iload_n C dX1_slot_4 rfl 1 rfl rfl ?_
    refine lm_aload_n C dX1_slot_5 rfl 0 rfl rfl ?_
    refine lm_getf C (T := TX1) (N := 3) (v := .ref (m 4)) in1_X1_slot 3 rfl rfl 0 (by decide) fl13_X1_slot rfl rfl dX1_slot_6 rfl ?_
    refine lm_alenO C (v := (5 : Int32)) 4 rfl rfl dX1_slot_9 rfl ?_
    refine lm_icmp_ge C (tgt := 22) dX1_slot_10 (by decide) rfl (fun c2 => ?_) (fun c2 => ?_)
    · exact absurd c2 (by decide)
    · refine lm_aload_n C dX1_slot_13 rfl 0 rfl rfl ?_
      refine lm_getf C (T := TX1) (N := 3) (v := .ref (m 4)) in1_X1_slot 3 rfl rfl 0 (by decide) fl13_X1_slot rfl rfl dX1_slot_14 rfl ?_
      refine lm_iload_n C dX1_slot_17 rfl 1 rfl rfl ?_
      refine lm_aald C (v := .ref (a 5 0)) 4 rfl (by unfold vp_in; decide) rfl dX1_slot_18 rfl ?_
      refine lm_goto C (tgt := 23) dX1_slot_19 (by decide) ?_
      exact lm_aretR C hr hk (Or.inl ⟨_, rfl⟩) (Or.inr ⟨_, rfl⟩) rfl dX1_slot_23
set_option maxRecDepth 100000 in
set_option maxHeartbeats 4000000 in
theorem m_X1_slot_3 (D : va_G) (z zo : ClassId) (l : Launch) (m : Nat → Nat) (a : Nat → Nat → Nat) (h : Nat → Hp) : lm_CR D z zo l yX1_slot wsX1_slot 0 0 [.ref (m 3), .int (3 : Int32)] (lmW z zo m a h) (some (.ref (a 6 0))) := by
  refine lm_CR.of (by decide) rfl (Nat.le_of_ble_eq_true rfl) (own := RX1) rfl ?_
  intro p e s m_ args below meth c C hr hk
  refine lm_iload_n C dX1_slot_0 rfl 1 rfl rfl ?_
  refine lm_if_lt C (tgt := 22) dX1_slot_1 (by decide) rfl (fun c1 => ?_) (fun c1 => ?_)
  · exact absurd c1 (by decide)
  · refine lm_iload_n C dX1_slot_4 rfl 1 rfl rfl ?_
    refine lm_aload_n C dX1_slot_5 rfl 0 rfl rfl ?_
    refine lm_getf C (T := TX1) (N := 3) (v := .ref (m 4)) in1_X1_slot 3 rfl rfl 0 (by decide) fl13_X1_slot rfl rfl dX1_slot_6 rfl ?_
    refine lm_alenO C (v := (5 : Int32)) 4 rfl rfl dX1_slot_9 rfl ?_
    refine lm_icmp_ge C (tgt := 22) dX1_slot_10 (by decide) rfl (fun c2 => ?_) (fun c2 => ?_)
    · exact absurd c2 (by decide)
    · refine lm_aload_n C dX1_slot_13 rfl 0 rfl rfl ?_
      refine lm_getf C (T := TX1) (N := 3) (v := .ref (m 4)) in1_X1_slot 3 rfl rfl 0 (by decide) fl13_X1_slot rfl rfl dX1_slot_14 rfl ?_
      refine lm_iload_n C dX1_slot_17 rfl 1 rfl rfl ?_
      refine lm_aald C (v := .ref (a 6 0)) 4 rfl (by unfold vp_in; decide) rfl dX1_slot_18 rfl ?_
      refine lm_goto C (tgt := 23) dX1_slot_19 (by decide) ?_
      exact lm_aretR C hr hk (Or.inl ⟨_, rfl⟩) (Or.inr ⟨_, rfl⟩) rfl dX1_slot_23
set_option maxRecDepth 100000 in
set_option maxHeartbeats 4000000 in
theorem m_X1_slot_4 (D : va_G) (z zo : ClassId) (l : Launch) (m : Nat → Nat) (a : Nat → Nat → Nat) (h : Nat → Hp) : lm_CR D z zo l yX1_slot wsX1_slot 0 0 [.ref (m 3), .int (4 : Int32)] (lmW z zo m a h) (some (.ref (a 7 0))) := by
  refine lm_CR.of (by decide) rfl (Nat.le_of_ble_eq_true rfl) (own := RX1) rfl ?_
  intro p e s m_ args below meth c C hr hk
  refine lm_iload_n C dX1_slot_0 rfl 1 rfl rfl ?_
  refine lm_if_lt C (tgt := 22) dX1_slot_1 (by decide) rfl (fun c1 => ?_) (fun c1 => ?_)
  · exact absurd c1 (by decide)
  · refine lm_iload_n C dX1_slot_4 rfl 1 rfl rfl ?_
    refine lm_aload_n C dX1_slot_5 rfl 0 rfl rfl ?_
    refine lm_getf C (T := TX1) (N := 3) (v := .ref (m 4)) in1_X1_slot 3 rfl rfl 0 (by decide) fl13_X1_slot rfl rfl dX1_slot_6 rfl ?_
    refine lm_alenO C (v := (5 : Int32)) 4 rfl rfl dX1_slot_9 rfl ?_
    refine lm_icmp_ge C (tgt := 22) dX1_slot_10 (by decide) rfl (fun c2 => ?_) (fun c2 => ?_)
    · exact absurd c2 (by decide)
    · refine lm_aload_n C dX1_slot_13 rfl 0 rfl rfl ?_
      refine lm_getf C (T := TX1) (N := 3) (v := .ref (m 4)) in1_X1_slot 3 rfl rfl 0 (by decide) fl13_X1_slot rfl rfl dX1_slot_14 rfl ?_
      refine lm_iload_n C dX1_slot_17 rfl 1 rfl rfl ?_
      refine lm_aald C (v := .ref (a 7 0)) 4 rfl (by unfold vp_in; decide) rfl dX1_slot_18 rfl ?_
      refine lm_goto C (tgt := 23) dX1_slot_19 (by decide) ?_
      exact lm_aretR C hr hk (Or.inl ⟨_, rfl⟩) (Or.inr ⟨_, rfl⟩) rfl dX1_slot_23
def F_X1_size (h : Nat → Hp)  : Option Int32 :=
  some (h 8 3 2)
theorem in1_X1_size : ∀ w ∈ u_ws RX1 TX1 3, w ∈ wsX1_size := by decide +kernel
theorem fl18_X1_size : Cond.fieldLink RX1 18 "LoopMemo$History" "size" "I" ∈ wsX1_size := by decide +kernel
set_option maxRecDepth 100000 in
set_option maxHeartbeats 4000000 in
theorem m_X1_size (D : va_G) (z zo : ClassId) (l : Launch) (m : Nat → Nat) (a : Nat → Nat → Nat) (h : Nat → Hp)  (r : Int32)  (hF : F_X1_size h  = some r) : lm_CR D z zo l yX1_size wsX1_size 0 0 [.ref (m 3)] (lmW z zo m a h) (some (.int r)) := by
  refine lm_CR.of (by decide) rfl (Nat.le_of_ble_eq_true rfl) (own := RX1) rfl ?_
  intro p e s m_ args below meth c C hr hk
  show lm_St p l e ({ frames := 0, cells := 0, slots := 0, locals := 0 }) s m_ args below meth c D (fun _ => False) 1 0 0 (lm_EndR below (some (.int r)) args s) true (lmW z zo m a h) 0 [(0, .ref (m 3))] []
  rw [F_X1_size] at hF
  refine lm_aload_n C dX1_size_0 rfl 0 rfl rfl ?_
  refine lm_getf C (T := TX1) (N := 3) (v := .int (h 8 3 2)) in1_X1_size 3 rfl rfl 2 (by decide) fl18_X1_size rfl rfl dX1_size_1 rfl ?_
  cases hF
  exact lm_iretR C hr hk rfl dX1_size_4
def F_X1_prepare (h : Nat → Hp)  : Option (Nat → Hp) :=
  lm_br ((h 8 3 1) = (0 : Int32))
   (lm_bd (F_X4_copyFrom (h 3) (h 0)) fun τ2 =>
   lm_lt (lm_uB h 3 τ2) fun h3 =>
   some h3)
   (lm_br ((h 8 3 1) = (1 : Int32))
    (lm_bd (F_X4_copyFrom (h 4) (h 0)) fun τ5 =>
    lm_lt (lm_uB h 4 τ5) fun h6 =>
    some h6)
    (lm_br ((h 8 3 1) = (2 : Int32))
     (lm_bd (F_X4_copyFrom (h 5) (h 0)) fun τ8 =>
     lm_lt (lm_uB h 5 τ8) fun h9 =>
     some h9)
     (lm_br ((h 8 3 1) = (3 : Int32))
      (lm_bd (F_X4_copyFrom (h 6) (h 0)) fun τ11 =>
      lm_lt (lm_uB h 6 τ11) fun h12 =>
      some h12)
      (lm_br ((h 8 3 1) = (4 : Int32))
       (lm_bd (F_X4_copyFrom (h 7) (h 0)) fun τ14 =>
       lm_lt (lm_uB h 7 τ14) fun h15 =>
       some h15)
       (none)))))
theorem in1_X1_prepare : ∀ w ∈ u_ws RX1 TX1 3, w ∈ wsX1_prepare := by decide +kernel
theorem fl22_X1_prepare : Cond.fieldLink RX1 22 "LoopMemo$History" "next" "I" ∈ wsX1_prepare := by decide +kernel
set_option maxRecDepth 100000 in
set_option maxHeartbeats 4000000 in
theorem m_X1_prepare (D : va_G) (z zo : ClassId) (l : Launch) (m : Nat → Nat) (a : Nat → Nat → Nat) (h : Nat → Hp)   (h' : Nat → Hp) (hF : F_X1_prepare h  = some h') : lm_C D z zo l yX1_prepare wsX1_prepare 4 103 [.ref (m 3), .ref (a 0 0)] (lmW z zo m a h) none (lmW z zo m a h') := by
  refine lm_C.of (by decide) rfl (Nat.le_of_ble_eq_true rfl) (own := RX1) rfl ?_
  intro p e s m_ args below meth c C hr hk hA
  show lm_St p l e ({ frames := 4, cells := 0, slots := 0, locals := 103 }) s m_ args below meth c D (va_A (lmW z zo m a h) s.heap.size) 3 0 0 (lm_End below D none (lmW z zo m a h) (lmW z zo m a h') args s) false (lmW z zo m a h) 0 [(0, .ref (m 3)), (1, .ref (a 0 0))] []
  rw [F_X1_prepare] at hF
  refine lm_aload_n C dX1_prepare_0 rfl 0 rfl rfl ?_
  refine lm_aload_n C dX1_prepare_1 rfl 0 rfl rfl ?_
  refine lm_getf C (T := TX1) (N := 3) (v := .int (h 8 3 1)) in1_X1_prepare 3 rfl rfl 1 (by decide) fl22_X1_prepare rfl rfl dX1_prepare_2 rfl ?_
  rcases Classical.em ((h 8 3 1) = (0 : Int32)) with c1 | c1
  · have hF := lm_brt hF c1
    refine lm_callVR C (n := 1) (ci := 1) (by rw [c1]; exact m_X1_slot_0 D z zo l m a h) gX1_prepare_X1_slot rfl (by decide +kernel) ⟨Nat.le_of_ble_eq_true rfl, Nat.le_of_ble_eq_true rfl⟩ ⟨Nat.le_of_ble_eq_true rfl, Nat.le_of_ble_eq_true rfl⟩ 3 rfl rfl (fun _ h => h) rfl (As := [.int (h 8 3 1)]) rfl (Nat.le_of_ble_eq_true rfl) dX1_prepare_5 (st' := [.ref (a 3 0)]) rfl rfl ?_
    refine lm_astore_n C (lv' := [(0, .ref (m 3)), (1, .ref (a 0 0)), (2, .ref (a 3 0))]) dX1_prepare_8 rfl (by decide) rfl [1, 2, 0] rfl rfl ?_
    refine lm_aload_n C dX1_prepare_9 rfl 2 rfl rfl ?_
    refine lm_ifnull C dX1_prepare_10 rfl ?_
    refine lm_aload_n C dX1_prepare_13 rfl 2 rfl rfl ?_
    refine lm_aload_n C dX1_prepare_14 rfl 1 rfl rfl ?_
    obtain ⟨τ2, qτ2, hF⟩ := lm_bde hF
    obtain ⟨h3, eh3, hF⟩ := lm_lte hF
    refine lm_callV C (n := 1) (ci := 4) (w' := (lmW z zo m a h3)) hA (m_X4_copyFrom D z zo l (a 3) (a 0) (h 3) (h 0) τ2 qτ2) gX1_prepare_X4_copyFrom rfl (by decide +kernel) ⟨Nat.le_of_ble_eq_true rfl, Nat.le_of_ble_eq_true rfl⟩ ⟨Nat.le_of_ble_eq_true rfl, Nat.le_of_ble_eq_true rfl⟩ 56 rfl rfl (lm_g3_0 z zo m a h) (by rw [← eh3]; exact lm_p3_0 z zo m a h τ2) rfl rfl (Nat.le_of_ble_eq_true rfl) dX1_prepare_15 (st' := []) rfl rfl ?_
    cases hF
    exact lm_vret C hr hk rfl rfl dX1_prepare_18
  · have hF := lm_brf hF c1
    rcases Classical.em ((h 8 3 1) = (1 : Int32)) with c4 | c4
    · have hF := lm_brt hF c4
      refine lm_callVR C (n := 1) (ci := 1) (by rw [c4]; exact m_X1_slot_1 D z zo l m a h) gX1_prepare_X1_slot rfl (by decide +kernel) ⟨Nat.le_of_ble_eq_true rfl, Nat.le_of_ble_eq_true rfl⟩ ⟨Nat.le_of_ble_eq_true rfl, Nat.le_of_ble_eq_true rfl⟩ 3 rfl rfl (fun _ h => h) rfl (As := [.int (h 8 3 1)]) rfl (Nat.le_of_ble_eq_true rfl) dX1_prepare_5 (st' := [.ref (a 4 0)]) rfl rfl ?_
      refine lm_astore_n C (lv' := [(0, .ref (m 3)), (1, .ref (a 0 0)), (2, .ref (a 4 0))]) dX1_prepare_8 rfl (by decide) rfl [1, 2, 0] rfl rfl ?_
      refine lm_aload_n C dX1_prepare_9 rfl 2 rfl rfl ?_
      refine lm_ifnull C dX1_prepare_10 rfl ?_
      refine lm_aload_n C dX1_prepare_13 rfl 2 rfl rfl ?_
      refine lm_aload_n C dX1_prepare_14 rfl 1 rfl rfl ?_
      obtain ⟨τ5, qτ5, hF⟩ := lm_bde hF
      obtain ⟨h6, eh6, hF⟩ := lm_lte hF
      refine lm_callV C (n := 1) (ci := 4) (w' := (lmW z zo m a h6)) hA (m_X4_copyFrom D z zo l (a 4) (a 0) (h 4) (h 0) τ5 qτ5) gX1_prepare_X4_copyFrom rfl (by decide +kernel) ⟨Nat.le_of_ble_eq_true rfl, Nat.le_of_ble_eq_true rfl⟩ ⟨Nat.le_of_ble_eq_true rfl, Nat.le_of_ble_eq_true rfl⟩ 73 rfl rfl (lm_g4_0 z zo m a h) (by rw [← eh6]; exact lm_p4_0 z zo m a h τ5) rfl rfl (Nat.le_of_ble_eq_true rfl) dX1_prepare_15 (st' := []) rfl rfl ?_
      cases hF
      exact lm_vret C hr hk rfl rfl dX1_prepare_18
    · have hF := lm_brf hF c4
      rcases Classical.em ((h 8 3 1) = (2 : Int32)) with c7 | c7
      · have hF := lm_brt hF c7
        refine lm_callVR C (n := 1) (ci := 1) (by rw [c7]; exact m_X1_slot_2 D z zo l m a h) gX1_prepare_X1_slot rfl (by decide +kernel) ⟨Nat.le_of_ble_eq_true rfl, Nat.le_of_ble_eq_true rfl⟩ ⟨Nat.le_of_ble_eq_true rfl, Nat.le_of_ble_eq_true rfl⟩ 3 rfl rfl (fun _ h => h) rfl (As := [.int (h 8 3 1)]) rfl (Nat.le_of_ble_eq_true rfl) dX1_prepare_5 (st' := [.ref (a 5 0)]) rfl rfl ?_
        refine lm_astore_n C (lv' := [(0, .ref (m 3)), (1, .ref (a 0 0)), (2, .ref (a 5 0))]) dX1_prepare_8 rfl (by decide) rfl [1, 2, 0] rfl rfl ?_
        refine lm_aload_n C dX1_prepare_9 rfl 2 rfl rfl ?_
        refine lm_ifnull C dX1_prepare_10 rfl ?_
        refine lm_aload_n C dX1_prepare_13 rfl 2 rfl rfl ?_
        refine lm_aload_n C dX1_prepare_14 rfl 1 rfl rfl ?_
        obtain ⟨τ8, qτ8, hF⟩ := lm_bde hF
        obtain ⟨h9, eh9, hF⟩ := lm_lte hF
        refine lm_callV C (n := 1) (ci := 4) (w' := (lmW z zo m a h9)) hA (m_X4_copyFrom D z zo l (a 5) (a 0) (h 5) (h 0) τ8 qτ8) gX1_prepare_X4_copyFrom rfl (by decide +kernel) ⟨Nat.le_of_ble_eq_true rfl, Nat.le_of_ble_eq_true rfl⟩ ⟨Nat.le_of_ble_eq_true rfl, Nat.le_of_ble_eq_true rfl⟩ 90 rfl rfl (lm_g5_0 z zo m a h) (by rw [← eh9]; exact lm_p5_0 z zo m a h τ8) rfl rfl (Nat.le_of_ble_eq_true rfl) dX1_prepare_15 (st' := []) rfl rfl ?_
        cases hF
        exact lm_vret C hr hk rfl rfl dX1_prepare_18
      · have hF := lm_brf hF c7
        rcases Classical.em ((h 8 3 1) = (3 : Int32)) with c10 | c10
        · have hF := lm_brt hF c10
          refine lm_callVR C (n := 1) (ci := 1) (by rw [c10]; exact m_X1_slot_3 D z zo l m a h) gX1_prepare_X1_slot rfl (by decide +kernel) ⟨Nat.le_of_ble_eq_true rfl, Nat.le_of_ble_eq_true rfl⟩ ⟨Nat.le_of_ble_eq_true rfl, Nat.le_of_ble_eq_true rfl⟩ 3 rfl rfl (fun _ h => h) rfl (As := [.int (h 8 3 1)]) rfl (Nat.le_of_ble_eq_true rfl) dX1_prepare_5 (st' := [.ref (a 6 0)]) rfl rfl ?_
          refine lm_astore_n C (lv' := [(0, .ref (m 3)), (1, .ref (a 0 0)), (2, .ref (a 6 0))]) dX1_prepare_8 rfl (by decide) rfl [1, 2, 0] rfl rfl ?_
          refine lm_aload_n C dX1_prepare_9 rfl 2 rfl rfl ?_
          refine lm_ifnull C dX1_prepare_10 rfl ?_
          refine lm_aload_n C dX1_prepare_13 rfl 2 rfl rfl ?_
          refine lm_aload_n C dX1_prepare_14 rfl 1 rfl rfl ?_
          obtain ⟨τ11, qτ11, hF⟩ := lm_bde hF
          obtain ⟨h12, eh12, hF⟩ := lm_lte hF
          refine lm_callV C (n := 1) (ci := 4) (w' := (lmW z zo m a h12)) hA (m_X4_copyFrom D z zo l (a 6) (a 0) (h 6) (h 0) τ11 qτ11) gX1_prepare_X4_copyFrom rfl (by decide +kernel) ⟨Nat.le_of_ble_eq_true rfl, Nat.le_of_ble_eq_true rfl⟩ ⟨Nat.le_of_ble_eq_true rfl, Nat.le_of_ble_eq_true rfl⟩ 107 rfl rfl (lm_g6_0 z zo m a h) (by rw [← eh12]; exact lm_p6_0 z zo m a h τ11) rfl rfl (Nat.le_of_ble_eq_true rfl) dX1_prepare_15 (st' := []) rfl rfl ?_
          cases hF
          exact lm_vret C hr hk rfl rfl dX1_prepare_18
        · have hF := lm_brf hF c10
          rcases Classical.em ((h 8 3 1) = (4 : Int32)) with c13 | c13
          · have hF := lm_brt hF c13
            refine lm_callVR C (n := 1) (ci := 1) (by rw [c13]; exact m_X1_slot_4 D z zo l m a h) gX1_prepare_X1_slot rfl (by decide +kernel) ⟨Nat.le_of_ble_eq_true rfl, Nat.le_of_ble_eq_true rfl⟩ ⟨Nat.le_of_ble_eq_true rfl, Nat.le_of_ble_eq_true rfl⟩ 3 rfl rfl (fun _ h => h) rfl (As := [.int (h 8 3 1)]) rfl (Nat.le_of_ble_eq_true rfl) dX1_prepare_5 (st' := [.ref (a 7 0)]) rfl rfl ?_
            refine lm_astore_n C (lv' := [(0, .ref (m 3)), (1, .ref (a 0 0)), (2, .ref (a 7 0))]) dX1_prepare_8 rfl (by decide) rfl [1, 2, 0] rfl rfl ?_
            refine lm_aload_n C dX1_prepare_9 rfl 2 rfl rfl ?_
            refine lm_ifnull C dX1_prepare_10 rfl ?_
            refine lm_aload_n C dX1_prepare_13 rfl 2 rfl rfl ?_
            refine lm_aload_n C dX1_prepare_14 rfl 1 rfl rfl ?_
            obtain ⟨τ14, qτ14, hF⟩ := lm_bde hF
            obtain ⟨h15, eh15, hF⟩ := lm_lte hF
            refine lm_callV C (n := 1) (ci := 4) (w' := (lmW z zo m a h15)) hA (m_X4_copyFrom D z zo l (a 7) (a 0) (h 7) (h 0) τ14 qτ14) gX1_prepare_X4_copyFrom rfl (by decide +kernel) ⟨Nat.le_of_ble_eq_true rfl, Nat.le_of_ble_eq_true rfl⟩ ⟨Nat.le_of_ble_eq_true rfl, Nat.le_of_ble_eq_true rfl⟩ 124 rfl rfl (lm_g7_0 z zo m a h) (by rw [← eh15]; exact lm_p7_0 z zo m a h τ14) rfl rfl (Nat.le_of_ble_eq_true rfl) dX1_prepare_15 (st' := []) rfl rfl ?_
            cases hF
            exact lm_vret C hr hk rfl rfl dX1_prepare_18
          · have hF := lm_brf hF c13
            cases hF
def F_X1_commit (h : Nat → Hp) (x1 : Int32) : Option (Int32 × (Nat → Hp)) :=
  lm_br (x1 < 0)
   (some (x1, h))
   (lm_lt (lm_uB h 8 (lm_u (h 8) 3 1 (((h 8 3 1) + (1 : Int32)) - ((h 8 3 1) + (1 : Int32)) / (5 : Int32) * (5 : Int32)))) fun h2 =>
   lm_lt (lm_uB h2 8 (lm_u (h2 8) 3 2 (if (4 : Int32) < ((h2 8 3 2) + (1 : Int32)) then (4 : Int32) else ((h2 8 3 2) + (1 : Int32))))) fun h3 =>
   some (x1, h3))
theorem in1_X1_commit : ∀ w ∈ u_ws RX1 TX1 3, w ∈ wsX1_commit := by decide +kernel
theorem fl22_X1_commit : Cond.fieldLink RX1 22 "LoopMemo$History" "next" "I" ∈ wsX1_commit := by decide +kernel
theorem fl18_X1_commit : Cond.fieldLink RX1 18 "LoopMemo$History" "size" "I" ∈ wsX1_commit := by decide +kernel
theorem min0_X1_commit : Cond.methodLink RX1 33 Lib.Math.min.name ∈ wsX1_commit := by decide +kernel
theorem min1_X1_commit : Cond.static Lib.Math.min.name ∈ wsX1_commit := by decide +kernel
theorem min2_X1_commit : Cond.initialized "java/lang/Math" ∈ wsX1_commit := by decide +kernel
theorem min3_X1_commit : Cond.code Lib.Math.min.name Lib.Math.min.code 2 (some .int) ∈ wsX1_commit := by decide +kernel
set_option maxRecDepth 100000 in
set_option maxHeartbeats 4000000 in
theorem m_X1_commit (D : va_G) (z zo : ClassId) (l : Launch) (m : Nat → Nat) (a : Nat → Nat → Nat) (h : Nat → Hp) (x1 : Int32) (r : Int32) (h' : Nat → Hp) (hF : F_X1_commit h x1 = some (r, h')) : lm_C D z zo l yX1_commit wsX1_commit 1 21 [.ref (m 3), .int x1] (lmW z zo m a h) (some (.int r)) (lmW z zo m a h') := by
  refine lm_C.of (by decide) rfl (Nat.le_of_ble_eq_true rfl) (own := RX1) rfl ?_
  intro p e s m_ args below meth c C hr hk hA
  show lm_St p l e ({ frames := 1, cells := 0, slots := 0, locals := 21 }) s m_ args below meth c D (va_A (lmW z zo m a h) s.heap.size) 2 0 0 (lm_End below D (some (.int r)) (lmW z zo m a h) (lmW z zo m a h') args s) false (lmW z zo m a h) 0 [(0, .ref (m 3)), (1, .int x1)] []
  rw [F_X1_commit] at hF
  refine lm_iload_n C dX1_commit_0 rfl 1 rfl rfl ?_
  refine lm_if_lt C (tgt := 30) dX1_commit_1 (by decide) rfl (fun c1 => ?_) (fun c1 => ?_)
  · have hF := lm_brt hF c1
    refine lm_iload_n C dX1_commit_30 rfl 1 rfl rfl ?_
    cases hF
    exact lm_iret C hr hk rfl rfl dX1_commit_31
  · have hF := lm_brf hF c1
    refine lm_aload_n C dX1_commit_4 rfl 0 rfl rfl ?_
    refine lm_aload_n C dX1_commit_5 rfl 0 rfl rfl ?_
    refine lm_getf C (T := TX1) (N := 3) (v := .int (h 8 3 1)) in1_X1_commit 3 rfl rfl 1 (by decide) fl22_X1_commit rfl rfl dX1_commit_6 rfl ?_
    refine lm_iconst C (v := (1 : Int32)) dX1_commit_9 (by decide) rfl ?_
    refine lm_iadd C dX1_commit_10 rfl rfl ?_
    refine lm_iconst C (v := (5 : Int32)) dX1_commit_11 (by decide) rfl ?_
    refine lm_irem C dX1_commit_12 (by decide) rfl rfl ?_
    obtain ⟨h2, eh2, hF⟩ := lm_lte hF
    refine lm_putf C (T := TX1) (N := 3) (ty := .int) (v := .int (((h 8 3 1) + (1 : Int32)) - ((h 8 3 1) + (1 : Int32)) / (5 : Int32) * (5 : Int32))) (w' := (lmW z zo m a h2)) in1_X1_commit tyX1 tyX1_ok nmX1 3 rfl rfl 1 (by decide) fl22_X1_commit rfl rfl rfl rfl rfl (Nat.le_of_ble_eq_true rfl) dX1_commit_13 (by rw [← eh2]; rfl) rfl ?_
    refine lm_aload_n C dX1_commit_16 rfl 0 rfl rfl ?_
    refine lm_aload_n C dX1_commit_17 rfl 0 rfl rfl ?_
    refine lm_getf C (T := TX1) (N := 3) (v := .int (h2 8 3 2)) in1_X1_commit 3 rfl rfl 2 (by decide) fl18_X1_commit rfl rfl dX1_commit_18 rfl ?_
    refine lm_iconst C (v := (1 : Int32)) dX1_commit_21 (by decide) rfl ?_
    refine lm_iadd C dX1_commit_22 rfl rfl ?_
    refine lm_iconst C (v := (4 : Int32)) dX1_commit_23 (by decide) rfl ?_
    refine lm_mmin C min0_X1_commit min1_X1_commit min2_X1_commit min3_X1_commit (Nat.le_of_ble_eq_true rfl) (Nat.le_of_ble_eq_true rfl) rfl (Nat.le_of_ble_eq_true rfl) dX1_commit_24 rfl ?_
    obtain ⟨h3, eh3, hF⟩ := lm_lte hF
    refine lm_putf C (T := TX1) (N := 3) (ty := .int) (v := .int (if (4 : Int32) < ((h2 8 3 2) + (1 : Int32)) then (4 : Int32) else ((h2 8 3 2) + (1 : Int32)))) (w' := (lmW z zo m a h3)) in1_X1_commit tyX1 tyX1_ok nmX1 3 rfl rfl 2 (by decide) fl18_X1_commit rfl rfl rfl rfl rfl (Nat.le_of_ble_eq_true rfl) dX1_commit_27 (by rw [← eh3]; rfl) rfl ?_
    refine lm_iload_n C dX1_commit_30 rfl 1 rfl rfl ?_
    cases hF
    exact lm_iret C hr hk rfl rfl dX1_commit_31
