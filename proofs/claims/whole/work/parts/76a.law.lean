/-! the law: its cases -/
def lw_b (x : Int32) : Int32 := if x = 0 then 0 else 1
abbrev law_Cx (p : Program) (s : State) (m : MethodId) (b : Nat) (c : Code) (D : va_G) (z zo : ClassId) (d0 : Drawn) : Prop := lm_Cx p (s.setDrawn d0) m #[Value.ref b] c D z zo 8 RL wsL_law cL_law
abbrev law_St (p : Program) (l : Launch) (e : Env) (s : State) (m : MethodId) (b : Nat) (below : List Frame) (meth : Method) (c : Code) (D : va_G) (Q : State → Prop) (d0 : Drawn) (w : va_W) (pc : Nat) (lv : Lv) (st : List Value) : Prop := lm_St p l e room_1 (s.setDrawn d0) m #[Value.ref b] below meth c D (fun q : Nat => s.heap.size ≤ q) 8 149 2560 Q false w pc lv st
abbrev law_lv (mm am : Nat → Nat) (b i : Nat) : Lv := [(3, .int (nI i)), (2, .ref (am 0)), (1, .ref (mm 0)), (0, .ref b)]
theorem lm_sld {p : Program} {l : Launch} {e : Env} {R : Room} {s : State} {m : MethodId} {args : Array Value} {below : List Frame} {meth : Method} {c : Code} {D : va_G} {z zo : ClassId} {nL ce sl : Nat} {Q : State → Prop} {own : String} {Ts : List Cond} {cc : ByteArray} {w : va_W} {pc pc' : Nat} {lv : Lv} {st : List Value} {A : Nat → Prop} (C : lm_Cx p s m args c D z zo nL own Ts cc) {b L : Nat} {xs : Nat → Int32} (hX : va_X b L xs s s.heap) (hbl : b < s.heap.size) (hbA : ¬ A b) {i v : Int32} (hin : vp_in i L) (hv : xs i.toNatClampNeg = v) (hd : decode cc pc = .ok (.iaload, 1)) (hpc : pc + 1 = pc') (K : lm_St p l e R s m args below meth c D A nL ce sl Q false w pc' lv (.int v :: st)) : lm_St p l e R s m args below meth c D A nL ce sl Q false w pc lv (.int i :: .ref b :: st) := by
  subst hpc hv
  exact fun H locs ls hI hL => va_sld C.1 C.2.1 hX hbl hbA (hI.2.2 rfl).2 hin hd (K H locs ls hI hL)
theorem lm_slen {p : Program} {l : Launch} {e : Env} {R : Room} {s : State} {m : MethodId} {args : Array Value} {below : List Frame} {meth : Method} {c : Code} {D : va_G} {z zo : ClassId} {nL ce sl : Nat} {Q : State → Prop} {own : String} {Ts : List Cond} {cc : ByteArray} {w : va_W} {pc pc' : Nat} {lv : Lv} {st : List Value} {A : Nat → Prop} (C : lm_Cx p s m args c D z zo nL own Ts cc) {b L : Nat} {xs : Nat → Int32} (hX : va_X b L xs s s.heap) (hbl : b < s.heap.size) (hbA : ¬ A b) (hd : decode cc pc = .ok (.arraylength, 1)) (hpc : pc + 1 = pc') (K : lm_St p l e R s m args below meth c D A nL ce sl Q false w pc' lv (.int (nI L) :: st)) : lm_St p l e R s m args below meth c D A nL ce sl Q false w pc lv (.ref b :: st) := by
  subst hpc
  exact fun H locs ls hI hL => va_slen C.1 C.2.1 hX hbl hbA (hI.2.2 rfl).2 hd (K H locs ls hI hL)
section LW1
variable {p : Program} {l : Launch} {e : Env} {s : State} {m : MethodId} {below : List Frame} {meth : Method} {c : Code} {D : va_G} {z zo : ClassId} {b L i : Nat} {xs : Nat → Int32} {d0 : Drawn} {Q : State → Prop} {mm am : Nat → Nat} {aa : Nat → Nat → Nat} {h h' : Nat → Hp} {μ μ' : Hp} {r : Int32}
set_option maxRecDepth 100000 in
set_option maxHeartbeats 4000000 in
theorem law_add (C : law_Cx p s m b c D z zo d0) (hA : lm_AZ (fun q : Nat => s.heap.size ≤ q) (s.setDrawn d0)) (hX : va_X b L xs s s.heap) (hbl : b < s.heap.size) (hL : L ≤ 2048) (hi : i + 4 ≤ L) (F6 : F_X6_add h (lw_b (xs (i + 1))) (xs (i + 2)) (xs (i + 3)) = some (r, h')) (F7 : F_X7_add μ (lw_b (xs (i + 1))) (xs (i + 2)) (xs (i + 3)) = some (r, μ')) (K : law_St p l e s m b below meth c D Q d0 (mdW z am μ' ++ lmW z zo mm aa h') 835 (law_lv mm am b i) []) : law_St p l e s m b below meth c D Q d0 (mdW z am μ ++ lmW z zo mm aa h) 148 (law_lv mm am b i) [] := by
  refine lm_aload_n C dL_law_148 rfl 2 rfl rfl ?_
  refine lm_aload_n C dL_law_149 rfl 3 rfl rfl ?_
  refine lm_iload_n C dL_law_150 rfl 0 rfl rfl ?_
  refine lm_iconst C (v := (1 : Int32)) dL_law_151 (by decide) rfl ?_
  refine lm_iadd C (v := nI (i + 1)) dL_law_152 (nI_add i 1) rfl ?_
  refine lm_sld C (v := xs (i + 1)) hX hbl (Nat.not_le.mpr hbl) (vp_in_nI (by omega) (by omega)) (by rw [nI_clamp (by omega)]) dL_law_153 rfl ?_
  refine lm_if_eq C (tgt := 161) dL_law_154 (by decide) rfl (fun c1 => ?_) (fun c1 => ?_)
  · have e1 : lw_b (xs (i + 1)) = 0 := if_pos c1
    rw [e1] at F6 F7
    refine lm_iconst C (v := (0 : Int32)) dL_law_161 (by decide) rfl ?_
    refine lm_aload_n C dL_law_162 rfl 3 rfl rfl ?_
    refine lm_iload_n C dL_law_163 rfl 0 rfl rfl ?_
    refine lm_iconst C (v := (2 : Int32)) dL_law_164 (by decide) rfl ?_
    refine lm_iadd C (v := nI (i + 2)) dL_law_165 (nI_add i 2) rfl ?_
    refine lm_sld C (v := xs (i + 2)) hX hbl (Nat.not_le.mpr hbl) (vp_in_nI (by omega) (by omega)) (by rw [nI_clamp (by omega)]) dL_law_166 rfl ?_
    refine lm_aload_n C dL_law_167 rfl 3 rfl rfl ?_
    refine lm_iload_n C dL_law_168 rfl 0 rfl rfl ?_
    refine lm_iconst C (v := (3 : Int32)) dL_law_169 (by decide) rfl ?_
    refine lm_iadd C (v := nI (i + 3)) dL_law_170 (nI_add i 3) rfl ?_
    refine lm_sld C (v := xs (i + 3)) hX hbl (Nat.not_le.mpr hbl) (vp_in_nI (by omega) (by omega)) (by rw [nI_clamp (by omega)]) dL_law_171 rfl ?_
    refine lm_callV C (n := 3) (ci := 6) (w' := mdW z am μ ++ lmW z zo mm aa h') hA (m_X6_add D z zo l mm aa h (0) ((xs (i + 2))) ((xs (i + 3))) r h' F6) gL_law_X6_add rfl (by decide +kernel) ⟨Nat.le_of_ble_eq_true rfl, Nat.le_of_ble_eq_true rfl⟩ ⟨Nat.le_of_ble_eq_true rfl, Nat.le_of_ble_eq_true rfl⟩ 8 rfl rfl List.perm_append_comm List.perm_append_comm rfl rfl (Nat.le_of_ble_eq_true rfl) dL_law_172 (st' := [.int r]) rfl rfl ?_
    refine lm_aload_n C dL_law_175 rfl 1 rfl rfl ?_
    refine lm_aload_n C dL_law_176 rfl 3 rfl rfl ?_
    refine lm_iload_n C dL_law_177 rfl 0 rfl rfl ?_
    refine lm_iconst C (v := (1 : Int32)) dL_law_178 (by decide) rfl ?_
    refine lm_iadd C (v := nI (i + 1)) dL_law_179 (nI_add i 1) rfl ?_
    refine lm_sld C (v := xs (i + 1)) hX hbl (Nat.not_le.mpr hbl) (vp_in_nI (by omega) (by omega)) (by rw [nI_clamp (by omega)]) dL_law_180 rfl ?_
    refine lm_if_eq C (tgt := 188) dL_law_181 (by decide) rfl (fun c2 => ?_) (fun c2 => absurd c1 c2)
    refine lm_iconst C (v := (0 : Int32)) dL_law_188 (by decide) rfl ?_
    refine lm_aload_n C dL_law_189 rfl 3 rfl rfl ?_
    refine lm_iload_n C dL_law_190 rfl 0 rfl rfl ?_
    refine lm_iconst C (v := (2 : Int32)) dL_law_191 (by decide) rfl ?_
    refine lm_iadd C (v := nI (i + 2)) dL_law_192 (nI_add i 2) rfl ?_
    refine lm_sld C (v := xs (i + 2)) hX hbl (Nat.not_le.mpr hbl) (vp_in_nI (by omega) (by omega)) (by rw [nI_clamp (by omega)]) dL_law_193 rfl ?_
    refine lm_aload_n C dL_law_194 rfl 3 rfl rfl ?_
    refine lm_iload_n C dL_law_195 rfl 0 rfl rfl ?_
    refine lm_iconst C (v := (3 : Int32)) dL_law_196 (by decide) rfl ?_
    refine lm_iadd C (v := nI (i + 3)) dL_law_197 (nI_add i 3) rfl ?_
    refine lm_sld C (v := xs (i + 3)) hX hbl (Nat.not_le.mpr hbl) (vp_in_nI (by omega) (by omega)) (by rw [nI_clamp (by omega)]) dL_law_198 rfl ?_
    refine lm_callV C (n := 3) (ci := 7) (w' := mdW z am μ' ++ lmW z zo mm aa h') hA (m_X7_add D z zo l am μ (0) ((xs (i + 2))) ((xs (i + 3))) r μ' F7) gL_law_X7_add rfl (by decide +kernel) ⟨Nat.le_of_ble_eq_true rfl, Nat.le_of_ble_eq_true rfl⟩ ⟨Nat.le_of_ble_eq_true rfl, Nat.le_of_ble_eq_true rfl⟩ 0 rfl rfl (List.Perm.refl _) (List.Perm.refl _) rfl rfl (Nat.le_of_ble_eq_true rfl) dL_law_199 (st' := [.int r, .int r]) rfl rfl ?_
    refine lm_icmp_eq C (tgt := 835) dL_law_202 (by decide) rfl (fun _ => ?_) (fun c9 => absurd rfl c9)
    exact K
  · have e1 : lw_b (xs (i + 1)) = 1 := if_neg c1
    rw [e1] at F6 F7
    refine lm_iconst C (v := (1 : Int32)) dL_law_157 (by decide) rfl ?_
    refine lm_goto C (tgt := 162) dL_law_158 (by decide) ?_
    refine lm_aload_n C dL_law_162 rfl 3 rfl rfl ?_
    refine lm_iload_n C dL_law_163 rfl 0 rfl rfl ?_
    refine lm_iconst C (v := (2 : Int32)) dL_law_164 (by decide) rfl ?_
    refine lm_iadd C (v := nI (i + 2)) dL_law_165 (nI_add i 2) rfl ?_
    refine lm_sld C (v := xs (i + 2)) hX hbl (Nat.not_le.mpr hbl) (vp_in_nI (by omega) (by omega)) (by rw [nI_clamp (by omega)]) dL_law_166 rfl ?_
    refine lm_aload_n C dL_law_167 rfl 3 rfl rfl ?_
    refine lm_iload_n C dL_law_168 rfl 0 rfl rfl ?_
    refine lm_iconst C (v := (3 : Int32)) dL_law_169 (by decide) rfl ?_
    refine lm_iadd C (v := nI (i + 3)) dL_law_170 (nI_add i 3) rfl ?_
    refine lm_sld C (v := xs (i + 3)) hX hbl (Nat.not_le.mpr hbl) (vp_in_nI (by omega) (by omega)) (by rw [nI_clamp (by omega)]) dL_law_171 rfl ?_
    refine lm_callV C (n := 3) (ci := 6) (w' := mdW z am μ ++ lmW z zo mm aa h') hA (m_X6_add D z zo l mm aa h (1) ((xs (i + 2))) ((xs (i + 3))) r h' F6) gL_law_X6_add rfl (by decide +kernel) ⟨Nat.le_of_ble_eq_true rfl, Nat.le_of_ble_eq_true rfl⟩ ⟨Nat.le_of_ble_eq_true rfl, Nat.le_of_ble_eq_true rfl⟩ 8 rfl rfl List.perm_append_comm List.perm_append_comm rfl rfl (Nat.le_of_ble_eq_true rfl) dL_law_172 (st' := [.int r]) rfl rfl ?_
    refine lm_aload_n C dL_law_175 rfl 1 rfl rfl ?_
    refine lm_aload_n C dL_law_176 rfl 3 rfl rfl ?_
    refine lm_iload_n C dL_law_177 rfl 0 rfl rfl ?_
    refine lm_iconst C (v := (1 : Int32)) dL_law_178 (by decide) rfl ?_
    refine lm_iadd C (v := nI (i + 1)) dL_law_179 (nI_add i 1) rfl ?_
    refine lm_sld C (v := xs (i + 1)) hX hbl (Nat.not_le.mpr hbl) (vp_in_nI (by omega) (by omega)) (by rw [nI_clamp (by omega)]) dL_law_180 rfl ?_
    refine lm_if_eq C (tgt := 188) dL_law_181 (by decide) rfl (fun c2 => absurd c2 c1) (fun c2 => ?_)
    refine lm_iconst C (v := (1 : Int32)) dL_law_184 (by decide) rfl ?_
    refine lm_goto C (tgt := 189) dL_law_185 (by decide) ?_
    refine lm_aload_n C dL_law_189 rfl 3 rfl rfl ?_
    refine lm_iload_n C dL_law_190 rfl 0 rfl rfl ?_
    refine lm_iconst C (v := (2 : Int32)) dL_law_191 (by decide) rfl ?_
    refine lm_iadd C (v := nI (i + 2)) dL_law_192 (nI_add i 2) rfl ?_
    refine lm_sld C (v := xs (i + 2)) hX hbl (Nat.not_le.mpr hbl) (vp_in_nI (by omega) (by omega)) (by rw [nI_clamp (by omega)]) dL_law_193 rfl ?_
    refine lm_aload_n C dL_law_194 rfl 3 rfl rfl ?_
    refine lm_iload_n C dL_law_195 rfl 0 rfl rfl ?_
    refine lm_iconst C (v := (3 : Int32)) dL_law_196 (by decide) rfl ?_
    refine lm_iadd C (v := nI (i + 3)) dL_law_197 (nI_add i 3) rfl ?_
    refine lm_sld C (v := xs (i + 3)) hX hbl (Nat.not_le.mpr hbl) (vp_in_nI (by omega) (by omega)) (by rw [nI_clamp (by omega)]) dL_law_198 rfl ?_
    refine lm_callV C (n := 3) (ci := 7) (w' := mdW z am μ' ++ lmW z zo mm aa h') hA (m_X7_add D z zo l am μ (1) ((xs (i + 2))) ((xs (i + 3))) r μ' F7) gL_law_X7_add rfl (by decide +kernel) ⟨Nat.le_of_ble_eq_true rfl, Nat.le_of_ble_eq_true rfl⟩ ⟨Nat.le_of_ble_eq_true rfl, Nat.le_of_ble_eq_true rfl⟩ 0 rfl rfl (List.Perm.refl _) (List.Perm.refl _) rfl rfl (Nat.le_of_ble_eq_true rfl) dL_law_199 (st' := [.int r, .int r]) rfl rfl ?_
    refine lm_icmp_eq C (tgt := 835) dL_law_202 (by decide) rfl (fun _ => ?_) (fun c9 => absurd rfl c9)
    exact K
set_option maxRecDepth 100000 in
set_option maxHeartbeats 4000000 in
theorem law_drop (C : law_Cx p s m b c D z zo d0) (hA : lm_AZ (fun q : Nat => s.heap.size ≤ q) (s.setDrawn d0)) (hX : va_X b L xs s s.heap) (hbl : b < s.heap.size) (hL : L ≤ 2048) (hi : i + 4 ≤ L) (F6 : F_X6_drop h (lw_b (xs (i + 1))) (xs (i + 2)) = some (r, h')) (F7 : F_X7_drop μ (lw_b (xs (i + 1))) (xs (i + 2)) = some (r, μ')) (K : law_St p l e s m b below meth c D Q d0 (mdW z am μ' ++ lmW z zo mm aa h') 835 (law_lv mm am b i) []) : law_St p l e s m b below meth c D Q d0 (mdW z am μ ++ lmW z zo mm aa h) 207 (law_lv mm am b i) [] := by
  refine lm_aload_n C dL_law_207 rfl 2 rfl rfl ?_
  refine lm_aload_n C dL_law_208 rfl 3 rfl rfl ?_
  refine lm_iload_n C dL_law_209 rfl 0 rfl rfl ?_
  refine lm_iconst C (v := (1 : Int32)) dL_law_210 (by decide) rfl ?_
  refine lm_iadd C (v := nI (i + 1)) dL_law_211 (nI_add i 1) rfl ?_
  refine lm_sld C (v := xs (i + 1)) hX hbl (Nat.not_le.mpr hbl) (vp_in_nI (by omega) (by omega)) (by rw [nI_clamp (by omega)]) dL_law_212 rfl ?_
  refine lm_if_eq C (tgt := 220) dL_law_213 (by decide) rfl (fun c1 => ?_) (fun c1 => ?_)
  · have e1 : lw_b (xs (i + 1)) = 0 := if_pos c1
    rw [e1] at F6 F7
    refine lm_iconst C (v := (0 : Int32)) dL_law_220 (by decide) rfl ?_
    refine lm_aload_n C dL_law_221 rfl 3 rfl rfl ?_
    refine lm_iload_n C dL_law_222 rfl 0 rfl rfl ?_
    refine lm_iconst C (v := (2 : Int32)) dL_law_223 (by decide) rfl ?_
    refine lm_iadd C (v := nI (i + 2)) dL_law_224 (nI_add i 2) rfl ?_
    refine lm_sld C (v := xs (i + 2)) hX hbl (Nat.not_le.mpr hbl) (vp_in_nI (by omega) (by omega)) (by rw [nI_clamp (by omega)]) dL_law_225 rfl ?_
    refine lm_callV C (n := 2) (ci := 6) (w' := mdW z am μ ++ lmW z zo mm aa h') hA (m_X6_drop D z zo l mm aa h (0) ((xs (i + 2))) r h' F6) gL_law_X6_drop rfl (by decide +kernel) ⟨Nat.le_of_ble_eq_true rfl, Nat.le_of_ble_eq_true rfl⟩ ⟨Nat.le_of_ble_eq_true rfl, Nat.le_of_ble_eq_true rfl⟩ 8 rfl rfl List.perm_append_comm List.perm_append_comm rfl rfl (Nat.le_of_ble_eq_true rfl) dL_law_226 (st' := [.int r]) rfl rfl ?_
    refine lm_aload_n C dL_law_229 rfl 1 rfl rfl ?_
    refine lm_aload_n C dL_law_230 rfl 3 rfl rfl ?_
    refine lm_iload_n C dL_law_231 rfl 0 rfl rfl ?_
    refine lm_iconst C (v := (1 : Int32)) dL_law_232 (by decide) rfl ?_
    refine lm_iadd C (v := nI (i + 1)) dL_law_233 (nI_add i 1) rfl ?_
    refine lm_sld C (v := xs (i + 1)) hX hbl (Nat.not_le.mpr hbl) (vp_in_nI (by omega) (by omega)) (by rw [nI_clamp (by omega)]) dL_law_234 rfl ?_
    refine lm_if_eq C (tgt := 242) dL_law_235 (by decide) rfl (fun c2 => ?_) (fun c2 => absurd c1 c2)
    refine lm_iconst C (v := (0 : Int32)) dL_law_242 (by decide) rfl ?_
    refine lm_aload_n C dL_law_243 rfl 3 rfl rfl ?_
    refine lm_iload_n C dL_law_244 rfl 0 rfl rfl ?_
    refine lm_iconst C (v := (2 : Int32)) dL_law_245 (by decide) rfl ?_
    refine lm_iadd C (v := nI (i + 2)) dL_law_246 (nI_add i 2) rfl ?_
    refine lm_sld C (v := xs (i + 2)) hX hbl (Nat.not_le.mpr hbl) (vp_in_nI (by omega) (by omega)) (by rw [nI_clamp (by omega)]) dL_law_247 rfl ?_
    refine lm_callV C (n := 2) (ci := 7) (w' := mdW z am μ' ++ lmW z zo mm aa h') hA (m_X7_drop D z zo l am μ (0) ((xs (i + 2))) r μ' F7) gL_law_X7_drop rfl (by decide +kernel) ⟨Nat.le_of_ble_eq_true rfl, Nat.le_of_ble_eq_true rfl⟩ ⟨Nat.le_of_ble_eq_true rfl, Nat.le_of_ble_eq_true rfl⟩ 0 rfl rfl (List.Perm.refl _) (List.Perm.refl _) rfl rfl (Nat.le_of_ble_eq_true rfl) dL_law_248 (st' := [.int r, .int r]) rfl rfl ?_
    refine lm_icmp_eq C (tgt := 835) dL_law_251 (by decide) rfl (fun _ => ?_) (fun c9 => absurd rfl c9)
    exact K
  · have e1 : lw_b (xs (i + 1)) = 1 := if_neg c1
    rw [e1] at F6 F7
    refine lm_iconst C (v := (1 : Int32)) dL_law_216 (by decide) rfl ?_
    refine lm_goto C (tgt := 221) dL_law_217 (by decide) ?_
    refine lm_aload_n C dL_law_221 rfl 3 rfl rfl ?_
    refine lm_iload_n C dL_law_222 rfl 0 rfl rfl ?_
    refine lm_iconst C (v := (2 : Int32)) dL_law_223 (by decide) rfl ?_
    refine lm_iadd C (v := nI (i + 2)) dL_law_224 (nI_add i 2) rfl ?_
    refine lm_sld C (v := xs (i + 2)) hX hbl (Nat.not_le.mpr hbl) (vp_in_nI (by omega) (by omega)) (by rw [nI_clamp (by omega)]) dL_law_225 rfl ?_
    refine lm_callV C (n := 2) (ci := 6) (w' := mdW z am μ ++ lmW z zo mm aa h') hA (m_X6_drop D z zo l mm aa h (1) ((xs (i + 2))) r h' F6) gL_law_X6_drop rfl (by decide +kernel) ⟨Nat.le_of_ble_eq_true rfl, Nat.le_of_ble_eq_true rfl⟩ ⟨Nat.le_of_ble_eq_true rfl, Nat.le_of_ble_eq_true rfl⟩ 8 rfl rfl List.perm_append_comm List.perm_append_comm rfl rfl (Nat.le_of_ble_eq_true rfl) dL_law_226 (st' := [.int r]) rfl rfl ?_
    refine lm_aload_n C dL_law_229 rfl 1 rfl rfl ?_
    refine lm_aload_n C dL_law_230 rfl 3 rfl rfl ?_
    refine lm_iload_n C dL_law_231 rfl 0 rfl rfl ?_
    refine lm_iconst C (v := (1 : Int32)) dL_law_232 (by decide) rfl ?_
    refine lm_iadd C (v := nI (i + 1)) dL_law_233 (nI_add i 1) rfl ?_
    refine lm_sld C (v := xs (i + 1)) hX hbl (Nat.not_le.mpr hbl) (vp_in_nI (by omega) (by omega)) (by rw [nI_clamp (by omega)]) dL_law_234 rfl ?_
    refine lm_if_eq C (tgt := 242) dL_law_235 (by decide) rfl (fun c2 => absurd c2 c1) (fun c2 => ?_)
    refine lm_iconst C (v := (1 : Int32)) dL_law_238 (by decide) rfl ?_
    refine lm_goto C (tgt := 243) dL_law_239 (by decide) ?_
    refine lm_aload_n C dL_law_243 rfl 3 rfl rfl ?_
    refine lm_iload_n C dL_law_244 rfl 0 rfl rfl ?_
    refine lm_iconst C (v := (2 : Int32)) dL_law_245 (by decide) rfl ?_
    refine lm_iadd C (v := nI (i + 2)) dL_law_246 (nI_add i 2) rfl ?_
    refine lm_sld C (v := xs (i + 2)) hX hbl (Nat.not_le.mpr hbl) (vp_in_nI (by omega) (by omega)) (by rw [nI_clamp (by omega)]) dL_law_247 rfl ?_
    refine lm_callV C (n := 2) (ci := 7) (w' := mdW z am μ' ++ lmW z zo mm aa h') hA (m_X7_drop D z zo l am μ (1) ((xs (i + 2))) r μ' F7) gL_law_X7_drop rfl (by decide +kernel) ⟨Nat.le_of_ble_eq_true rfl, Nat.le_of_ble_eq_true rfl⟩ ⟨Nat.le_of_ble_eq_true rfl, Nat.le_of_ble_eq_true rfl⟩ 0 rfl rfl (List.Perm.refl _) (List.Perm.refl _) rfl rfl (Nat.le_of_ble_eq_true rfl) dL_law_248 (st' := [.int r, .int r]) rfl rfl ?_
    refine lm_icmp_eq C (tgt := 835) dL_law_251 (by decide) rfl (fun _ => ?_) (fun c9 => absurd rfl c9)
    exact K
set_option maxRecDepth 100000 in
set_option maxHeartbeats 4000000 in
theorem law_change (C : law_Cx p s m b c D z zo d0) (hA : lm_AZ (fun q : Nat => s.heap.size ≤ q) (s.setDrawn d0)) (hX : va_X b L xs s s.heap) (hbl : b < s.heap.size) (hL : L ≤ 2048) (hi : i + 4 ≤ L) (F6 : F_X6_change h (xs (i + 1)) (xs (i + 2)) (xs (i + 3)) = some (r, h')) (F7 : F_X7_change μ (xs (i + 1)) (xs (i + 2)) (xs (i + 3)) = some (r, μ')) (K : law_St p l e s m b below meth c D Q d0 (mdW z am μ' ++ lmW z zo mm aa h') 835 (law_lv mm am b i) []) : law_St p l e s m b below meth c D Q d0 (mdW z am μ ++ lmW z zo mm aa h) 256 (law_lv mm am b i) [] := by
  refine lm_aload_n C dL_law_256 rfl 2 rfl rfl ?_
  refine lm_aload_n C dL_law_257 rfl 3 rfl rfl ?_
  refine lm_iload_n C dL_law_258 rfl 0 rfl rfl ?_
  refine lm_iconst C (v := (1 : Int32)) dL_law_259 (by decide) rfl ?_
  refine lm_iadd C (v := nI (i + 1)) dL_law_260 (nI_add i 1) rfl ?_
  refine lm_sld C (v := xs (i + 1)) hX hbl (Nat.not_le.mpr hbl) (vp_in_nI (by omega) (by omega)) (by rw [nI_clamp (by omega)]) dL_law_261 rfl ?_
  refine lm_aload_n C dL_law_262 rfl 3 rfl rfl ?_
  refine lm_iload_n C dL_law_263 rfl 0 rfl rfl ?_
  refine lm_iconst C (v := (2 : Int32)) dL_law_264 (by decide) rfl ?_
  refine lm_iadd C (v := nI (i + 2)) dL_law_265 (nI_add i 2) rfl ?_
  refine lm_sld C (v := xs (i + 2)) hX hbl (Nat.not_le.mpr hbl) (vp_in_nI (by omega) (by omega)) (by rw [nI_clamp (by omega)]) dL_law_266 rfl ?_
  refine lm_aload_n C dL_law_267 rfl 3 rfl rfl ?_
  refine lm_iload_n C dL_law_268 rfl 0 rfl rfl ?_
  refine lm_iconst C (v := (3 : Int32)) dL_law_269 (by decide) rfl ?_
  refine lm_iadd C (v := nI (i + 3)) dL_law_270 (nI_add i 3) rfl ?_
  refine lm_sld C (v := xs (i + 3)) hX hbl (Nat.not_le.mpr hbl) (vp_in_nI (by omega) (by omega)) (by rw [nI_clamp (by omega)]) dL_law_271 rfl ?_
  refine lm_callV C (n := 3) (ci := 6) (w' := mdW z am μ ++ lmW z zo mm aa h') hA (m_X6_change D z zo l mm aa h ((xs (i + 1))) ((xs (i + 2))) ((xs (i + 3))) r h' F6) gL_law_X6_change rfl (by decide +kernel) ⟨Nat.le_of_ble_eq_true rfl, Nat.le_of_ble_eq_true rfl⟩ ⟨Nat.le_of_ble_eq_true rfl, Nat.le_of_ble_eq_true rfl⟩ 8 rfl rfl List.perm_append_comm List.perm_append_comm rfl rfl (Nat.le_of_ble_eq_true rfl) dL_law_272 (st' := [.int r]) rfl rfl ?_
  refine lm_aload_n C dL_law_275 rfl 1 rfl rfl ?_
  refine lm_aload_n C dL_law_276 rfl 3 rfl rfl ?_
  refine lm_iload_n C dL_law_277 rfl 0 rfl rfl ?_
  refine lm_iconst C (v := (1 : Int32)) dL_law_278 (by decide) rfl ?_
  refine lm_iadd C (v := nI (i + 1)) dL_law_279 (nI_add i 1) rfl ?_
  refine lm_sld C (v := xs (i + 1)) hX hbl (Nat.not_le.mpr hbl) (vp_in_nI (by omega) (by omega)) (by rw [nI_clamp (by omega)]) dL_law_280 rfl ?_
  refine lm_aload_n C dL_law_281 rfl 3 rfl rfl ?_
  refine lm_iload_n C dL_law_282 rfl 0 rfl rfl ?_
  refine lm_iconst C (v := (2 : Int32)) dL_law_283 (by decide) rfl ?_
  refine lm_iadd C (v := nI (i + 2)) dL_law_284 (nI_add i 2) rfl ?_
  refine lm_sld C (v := xs (i + 2)) hX hbl (Nat.not_le.mpr hbl) (vp_in_nI (by omega) (by omega)) (by rw [nI_clamp (by omega)]) dL_law_285 rfl ?_
  refine lm_aload_n C dL_law_286 rfl 3 rfl rfl ?_
  refine lm_iload_n C dL_law_287 rfl 0 rfl rfl ?_
  refine lm_iconst C (v := (3 : Int32)) dL_law_288 (by decide) rfl ?_
  refine lm_iadd C (v := nI (i + 3)) dL_law_289 (nI_add i 3) rfl ?_
  refine lm_sld C (v := xs (i + 3)) hX hbl (Nat.not_le.mpr hbl) (vp_in_nI (by omega) (by omega)) (by rw [nI_clamp (by omega)]) dL_law_290 rfl ?_
  refine lm_callV C (n := 3) (ci := 7) (w' := mdW z am μ' ++ lmW z zo mm aa h') hA (m_X7_change D z zo l am μ ((xs (i + 1))) ((xs (i + 2))) ((xs (i + 3))) r μ' F7) gL_law_X7_change rfl (by decide +kernel) ⟨Nat.le_of_ble_eq_true rfl, Nat.le_of_ble_eq_true rfl⟩ ⟨Nat.le_of_ble_eq_true rfl, Nat.le_of_ble_eq_true rfl⟩ 0 rfl rfl (List.Perm.refl _) (List.Perm.refl _) rfl rfl (Nat.le_of_ble_eq_true rfl) dL_law_291 (st' := [.int r, .int r]) rfl rfl ?_
  refine lm_icmp_eq C (tgt := 835) dL_law_294 (by decide) rfl (fun _ => ?_) (fun c9 => absurd rfl c9)
  exact K
set_option maxRecDepth 100000 in
set_option maxHeartbeats 4000000 in
theorem law_step (C : law_Cx p s m b c D z zo d0) (hA : lm_AZ (fun q : Nat => s.heap.size ≤ q) (s.setDrawn d0)) (hX : va_X b L xs s s.heap) (hbl : b < s.heap.size) (hL : L ≤ 2048) (hi : i + 4 ≤ L) (F6 : F_X6_step h (xs (i + 1)) = some (r, h')) (F7 : F_X7_step μ (xs (i + 1)) = some (r, μ')) (K : law_St p l e s m b below meth c D Q d0 (mdW z am μ' ++ lmW z zo mm aa h') 835 (law_lv mm am b i) []) : law_St p l e s m b below meth c D Q d0 (mdW z am μ ++ lmW z zo mm aa h) 299 (law_lv mm am b i) [] := by
  refine lm_aload_n C dL_law_299 rfl 2 rfl rfl ?_
  refine lm_aload_n C dL_law_300 rfl 3 rfl rfl ?_
  refine lm_iload_n C dL_law_301 rfl 0 rfl rfl ?_
  refine lm_iconst C (v := (1 : Int32)) dL_law_302 (by decide) rfl ?_
  refine lm_iadd C (v := nI (i + 1)) dL_law_303 (nI_add i 1) rfl ?_
  refine lm_sld C (v := xs (i + 1)) hX hbl (Nat.not_le.mpr hbl) (vp_in_nI (by omega) (by omega)) (by rw [nI_clamp (by omega)]) dL_law_304 rfl ?_
  refine lm_callV C (n := 1) (ci := 6) (w' := mdW z am μ ++ lmW z zo mm aa h') hA (m_X6_step D z zo l mm aa h ((xs (i + 1))) r h' F6) gL_law_X6_step rfl (by decide +kernel) ⟨Nat.le_of_ble_eq_true rfl, Nat.le_of_ble_eq_true rfl⟩ ⟨Nat.le_of_ble_eq_true rfl, Nat.le_of_ble_eq_true rfl⟩ 8 rfl rfl List.perm_append_comm List.perm_append_comm rfl rfl (Nat.le_of_ble_eq_true rfl) dL_law_305 (st' := [.int r]) rfl rfl ?_
  refine lm_aload_n C dL_law_308 rfl 1 rfl rfl ?_
  refine lm_aload_n C dL_law_309 rfl 3 rfl rfl ?_
  refine lm_iload_n C dL_law_310 rfl 0 rfl rfl ?_
  refine lm_iconst C (v := (1 : Int32)) dL_law_311 (by decide) rfl ?_
  refine lm_iadd C (v := nI (i + 1)) dL_law_312 (nI_add i 1) rfl ?_
  refine lm_sld C (v := xs (i + 1)) hX hbl (Nat.not_le.mpr hbl) (vp_in_nI (by omega) (by omega)) (by rw [nI_clamp (by omega)]) dL_law_313 rfl ?_
  refine lm_callV C (n := 1) (ci := 7) (w' := mdW z am μ' ++ lmW z zo mm aa h') hA (m_X7_step D z zo l am μ ((xs (i + 1))) r μ' F7) gL_law_X7_step rfl (by decide +kernel) ⟨Nat.le_of_ble_eq_true rfl, Nat.le_of_ble_eq_true rfl⟩ ⟨Nat.le_of_ble_eq_true rfl, Nat.le_of_ble_eq_true rfl⟩ 0 rfl rfl (List.Perm.refl _) (List.Perm.refl _) rfl rfl (Nat.le_of_ble_eq_true rfl) dL_law_314 (st' := [.int r, .int r]) rfl rfl ?_
  refine lm_icmp_eq C (tgt := 835) dL_law_317 (by decide) rfl (fun _ => ?_) (fun c9 => absurd rfl c9)
  exact K
set_option maxRecDepth 100000 in
set_option maxHeartbeats 4000000 in
theorem law_again (C : law_Cx p s m b c D z zo d0) (hA : lm_AZ (fun q : Nat => s.heap.size ≤ q) (s.setDrawn d0)) (hX : va_X b L xs s s.heap) (hbl : b < s.heap.size) (hL : L ≤ 2048) (hi : i + 4 ≤ L) (F6 : F_X6_again h  = some (r, h')) (F7 : F_X7_again μ  = some (r, μ')) (K : law_St p l e s m b below meth c D Q d0 (mdW z am μ' ++ lmW z zo mm aa h') 835 (law_lv mm am b i) []) : law_St p l e s m b below meth c D Q d0 (mdW z am μ ++ lmW z zo mm aa h) 322 (law_lv mm am b i) [] := by
  refine lm_aload_n C dL_law_322 rfl 2 rfl rfl ?_
  refine lm_callV C (n := 0) (ci := 6) (w' := mdW z am μ ++ lmW z zo mm aa h') hA (m_X6_again D z zo l mm aa h  r h' F6) gL_law_X6_again rfl (by decide +kernel) ⟨Nat.le_of_ble_eq_true rfl, Nat.le_of_ble_eq_true rfl⟩ ⟨Nat.le_of_ble_eq_true rfl, Nat.le_of_ble_eq_true rfl⟩ 8 rfl rfl List.perm_append_comm List.perm_append_comm rfl rfl (Nat.le_of_ble_eq_true rfl) dL_law_323 (st' := [.int r]) rfl rfl ?_
  refine lm_aload_n C dL_law_326 rfl 1 rfl rfl ?_
  refine lm_callV C (n := 0) (ci := 7) (w' := mdW z am μ' ++ lmW z zo mm aa h') hA (m_X7_again D z zo l am μ  r μ' F7) gL_law_X7_again rfl (by decide +kernel) ⟨Nat.le_of_ble_eq_true rfl, Nat.le_of_ble_eq_true rfl⟩ ⟨Nat.le_of_ble_eq_true rfl, Nat.le_of_ble_eq_true rfl⟩ 0 rfl rfl (List.Perm.refl _) (List.Perm.refl _) rfl rfl (Nat.le_of_ble_eq_true rfl) dL_law_327 (st' := [.int r, .int r]) rfl rfl ?_
  refine lm_icmp_eq C (tgt := 835) dL_law_330 (by decide) rfl (fun _ => ?_) (fun c9 => absurd rfl c9)
  exact K
set_option maxRecDepth 100000 in
set_option maxHeartbeats 4000000 in
theorem law_forget (C : law_Cx p s m b c D z zo d0) (hA : lm_AZ (fun q : Nat => s.heap.size ≤ q) (s.setDrawn d0)) (hX : va_X b L xs s s.heap) (hbl : b < s.heap.size) (hL : L ≤ 2048) (hi : i + 4 ≤ L) (F6 : F_X6_forget h  = some (r, h')) (F7 : F_X7_forget μ  = some (r, μ')) (K : law_St p l e s m b below meth c D Q d0 (mdW z am μ' ++ lmW z zo mm aa h') 835 (law_lv mm am b i) []) : law_St p l e s m b below meth c D Q d0 (mdW z am μ ++ lmW z zo mm aa h) 335 (law_lv mm am b i) [] := by
  refine lm_aload_n C dL_law_335 rfl 2 rfl rfl ?_
  refine lm_callV C (n := 0) (ci := 6) (w' := mdW z am μ ++ lmW z zo mm aa h') hA (m_X6_forget D z zo l mm aa h  r h' F6) gL_law_X6_forget rfl (by decide +kernel) ⟨Nat.le_of_ble_eq_true rfl, Nat.le_of_ble_eq_true rfl⟩ ⟨Nat.le_of_ble_eq_true rfl, Nat.le_of_ble_eq_true rfl⟩ 8 rfl rfl List.perm_append_comm List.perm_append_comm rfl rfl (Nat.le_of_ble_eq_true rfl) dL_law_336 (st' := [.int r]) rfl rfl ?_
  refine lm_aload_n C dL_law_339 rfl 1 rfl rfl ?_
  refine lm_callV C (n := 0) (ci := 7) (w' := mdW z am μ' ++ lmW z zo mm aa h') hA (m_X7_forget D z zo l am μ  r μ' F7) gL_law_X7_forget rfl (by decide +kernel) ⟨Nat.le_of_ble_eq_true rfl, Nat.le_of_ble_eq_true rfl⟩ ⟨Nat.le_of_ble_eq_true rfl, Nat.le_of_ble_eq_true rfl⟩ 0 rfl rfl (List.Perm.refl _) (List.Perm.refl _) rfl rfl (Nat.le_of_ble_eq_true rfl) dL_law_340 (st' := [.int r, .int r]) rfl rfl ?_
  refine lm_icmp_eq C (tgt := 835) dL_law_343 (by decide) rfl (fun _ => ?_) (fun c9 => absurd rfl c9)
  exact K
set_option maxRecDepth 100000 in
set_option maxHeartbeats 4000000 in
theorem law_set (C : law_Cx p s m b c D z zo d0) (hA : lm_AZ (fun q : Nat => s.heap.size ≤ q) (s.setDrawn d0)) (hX : va_X b L xs s s.heap) (hbl : b < s.heap.size) (hL : L ≤ 2048) (hi : i + 4 ≤ L) (F6 : F_X6_set h (xs (i + 1)) (xs (i + 2)) = some (r, h')) (F7 : F_X7_set μ (xs (i + 1)) (xs (i + 2)) = some (r, μ')) (K : law_St p l e s m b below meth c D Q d0 (mdW z am μ' ++ lmW z zo mm aa h') 835 (law_lv mm am b i) []) : law_St p l e s m b below meth c D Q d0 (mdW z am μ ++ lmW z zo mm aa h) 348 (law_lv mm am b i) [] := by
  refine lm_aload_n C dL_law_348 rfl 2 rfl rfl ?_
  refine lm_aload_n C dL_law_349 rfl 3 rfl rfl ?_
  refine lm_iload_n C dL_law_350 rfl 0 rfl rfl ?_
  refine lm_iconst C (v := (1 : Int32)) dL_law_351 (by decide) rfl ?_
  refine lm_iadd C (v := nI (i + 1)) dL_law_352 (nI_add i 1) rfl ?_
  refine lm_sld C (v := xs (i + 1)) hX hbl (Nat.not_le.mpr hbl) (vp_in_nI (by omega) (by omega)) (by rw [nI_clamp (by omega)]) dL_law_353 rfl ?_
  refine lm_aload_n C dL_law_354 rfl 3 rfl rfl ?_
  refine lm_iload_n C dL_law_355 rfl 0 rfl rfl ?_
  refine lm_iconst C (v := (2 : Int32)) dL_law_356 (by decide) rfl ?_
  refine lm_iadd C (v := nI (i + 2)) dL_law_357 (nI_add i 2) rfl ?_
  refine lm_sld C (v := xs (i + 2)) hX hbl (Nat.not_le.mpr hbl) (vp_in_nI (by omega) (by omega)) (by rw [nI_clamp (by omega)]) dL_law_358 rfl ?_
  refine lm_callV C (n := 2) (ci := 6) (w' := mdW z am μ ++ lmW z zo mm aa h') hA (m_X6_set D z zo l mm aa h ((xs (i + 1))) ((xs (i + 2))) r h' F6) gL_law_X6_set rfl (by decide +kernel) ⟨Nat.le_of_ble_eq_true rfl, Nat.le_of_ble_eq_true rfl⟩ ⟨Nat.le_of_ble_eq_true rfl, Nat.le_of_ble_eq_true rfl⟩ 8 rfl rfl List.perm_append_comm List.perm_append_comm rfl rfl (Nat.le_of_ble_eq_true rfl) dL_law_359 (st' := [.int r]) rfl rfl ?_
  refine lm_aload_n C dL_law_362 rfl 1 rfl rfl ?_
  refine lm_aload_n C dL_law_363 rfl 3 rfl rfl ?_
  refine lm_iload_n C dL_law_364 rfl 0 rfl rfl ?_
  refine lm_iconst C (v := (1 : Int32)) dL_law_365 (by decide) rfl ?_
  refine lm_iadd C (v := nI (i + 1)) dL_law_366 (nI_add i 1) rfl ?_
  refine lm_sld C (v := xs (i + 1)) hX hbl (Nat.not_le.mpr hbl) (vp_in_nI (by omega) (by omega)) (by rw [nI_clamp (by omega)]) dL_law_367 rfl ?_
  refine lm_aload_n C dL_law_368 rfl 3 rfl rfl ?_
  refine lm_iload_n C dL_law_369 rfl 0 rfl rfl ?_
  refine lm_iconst C (v := (2 : Int32)) dL_law_370 (by decide) rfl ?_
  refine lm_iadd C (v := nI (i + 2)) dL_law_371 (nI_add i 2) rfl ?_
  refine lm_sld C (v := xs (i + 2)) hX hbl (Nat.not_le.mpr hbl) (vp_in_nI (by omega) (by omega)) (by rw [nI_clamp (by omega)]) dL_law_372 rfl ?_
  refine lm_callV C (n := 2) (ci := 7) (w' := mdW z am μ' ++ lmW z zo mm aa h') hA (m_X7_set D z zo l am μ ((xs (i + 1))) ((xs (i + 2))) r μ' F7) gL_law_X7_set rfl (by decide +kernel) ⟨Nat.le_of_ble_eq_true rfl, Nat.le_of_ble_eq_true rfl⟩ ⟨Nat.le_of_ble_eq_true rfl, Nat.le_of_ble_eq_true rfl⟩ 0 rfl rfl (List.Perm.refl _) (List.Perm.refl _) rfl rfl (Nat.le_of_ble_eq_true rfl) dL_law_373 (st' := [.int r, .int r]) rfl rfl ?_
  refine lm_icmp_eq C (tgt := 835) dL_law_376 (by decide) rfl (fun _ => ?_) (fun c9 => absurd rfl c9)
  exact K
set_option maxRecDepth 100000 in
set_option maxHeartbeats 4000000 in
theorem law_append (C : law_Cx p s m b c D z zo d0) (hA : lm_AZ (fun q : Nat => s.heap.size ≤ q) (s.setDrawn d0)) (hX : va_X b L xs s s.heap) (hbl : b < s.heap.size) (hL : L ≤ 2048) (hi : i + 4 ≤ L) (F6 : F_X6_append h (xs (i + 1)) = some (r, h')) (F7 : F_X7_append μ (xs (i + 1)) = some (r, μ')) (K : law_St p l e s m b below meth c D Q d0 (mdW z am μ' ++ lmW z zo mm aa h') 835 (law_lv mm am b i) []) : law_St p l e s m b below meth c D Q d0 (mdW z am μ ++ lmW z zo mm aa h) 381 (law_lv mm am b i) [] := by
  refine lm_aload_n C dL_law_381 rfl 2 rfl rfl ?_
  refine lm_aload_n C dL_law_382 rfl 3 rfl rfl ?_
  refine lm_iload_n C dL_law_383 rfl 0 rfl rfl ?_
  refine lm_iconst C (v := (1 : Int32)) dL_law_384 (by decide) rfl ?_
  refine lm_iadd C (v := nI (i + 1)) dL_law_385 (nI_add i 1) rfl ?_
  refine lm_sld C (v := xs (i + 1)) hX hbl (Nat.not_le.mpr hbl) (vp_in_nI (by omega) (by omega)) (by rw [nI_clamp (by omega)]) dL_law_386 rfl ?_
  refine lm_callV C (n := 1) (ci := 6) (w' := mdW z am μ ++ lmW z zo mm aa h') hA (m_X6_append D z zo l mm aa h ((xs (i + 1))) r h' F6) gL_law_X6_append rfl (by decide +kernel) ⟨Nat.le_of_ble_eq_true rfl, Nat.le_of_ble_eq_true rfl⟩ ⟨Nat.le_of_ble_eq_true rfl, Nat.le_of_ble_eq_true rfl⟩ 8 rfl rfl List.perm_append_comm List.perm_append_comm rfl rfl (Nat.le_of_ble_eq_true rfl) dL_law_387 (st' := [.int r]) rfl rfl ?_
  refine lm_aload_n C dL_law_390 rfl 1 rfl rfl ?_
  refine lm_aload_n C dL_law_391 rfl 3 rfl rfl ?_
  refine lm_iload_n C dL_law_392 rfl 0 rfl rfl ?_
  refine lm_iconst C (v := (1 : Int32)) dL_law_393 (by decide) rfl ?_
  refine lm_iadd C (v := nI (i + 1)) dL_law_394 (nI_add i 1) rfl ?_
  refine lm_sld C (v := xs (i + 1)) hX hbl (Nat.not_le.mpr hbl) (vp_in_nI (by omega) (by omega)) (by rw [nI_clamp (by omega)]) dL_law_395 rfl ?_
  refine lm_callV C (n := 1) (ci := 7) (w' := mdW z am μ' ++ lmW z zo mm aa h') hA (m_X7_append D z zo l am μ ((xs (i + 1))) r μ' F7) gL_law_X7_append rfl (by decide +kernel) ⟨Nat.le_of_ble_eq_true rfl, Nat.le_of_ble_eq_true rfl⟩ ⟨Nat.le_of_ble_eq_true rfl, Nat.le_of_ble_eq_true rfl⟩ 0 rfl rfl (List.Perm.refl _) (List.Perm.refl _) rfl rfl (Nat.le_of_ble_eq_true rfl) dL_law_396 (st' := [.int r, .int r]) rfl rfl ?_
  refine lm_icmp_eq C (tgt := 835) dL_law_399 (by decide) rfl (fun _ => ?_) (fun c9 => absurd rfl c9)
  exact K
set_option maxRecDepth 100000 in
set_option maxHeartbeats 4000000 in
theorem law_clear (C : law_Cx p s m b c D z zo d0) (hA : lm_AZ (fun q : Nat => s.heap.size ≤ q) (s.setDrawn d0)) (hX : va_X b L xs s s.heap) (hbl : b < s.heap.size) (hL : L ≤ 2048) (hi : i + 4 ≤ L) (F6 : F_X6_clear h  = some (r, h')) (F7 : F_X7_clear μ  = some (r, μ')) (K : law_St p l e s m b below meth c D Q d0 (mdW z am μ' ++ lmW z zo mm aa h') 835 (law_lv mm am b i) []) : law_St p l e s m b below meth c D Q d0 (mdW z am μ ++ lmW z zo mm aa h) 404 (law_lv mm am b i) [] := by
  refine lm_aload_n C dL_law_404 rfl 2 rfl rfl ?_
  refine lm_callV C (n := 0) (ci := 6) (w' := mdW z am μ ++ lmW z zo mm aa h') hA (m_X6_clear D z zo l mm aa h  r h' F6) gL_law_X6_clear rfl (by decide +kernel) ⟨Nat.le_of_ble_eq_true rfl, Nat.le_of_ble_eq_true rfl⟩ ⟨Nat.le_of_ble_eq_true rfl, Nat.le_of_ble_eq_true rfl⟩ 8 rfl rfl List.perm_append_comm List.perm_append_comm rfl rfl (Nat.le_of_ble_eq_true rfl) dL_law_405 (st' := [.int r]) rfl rfl ?_
  refine lm_aload_n C dL_law_408 rfl 1 rfl rfl ?_
  refine lm_callV C (n := 0) (ci := 7) (w' := mdW z am μ' ++ lmW z zo mm aa h') hA (m_X7_clear D z zo l am μ  r μ' F7) gL_law_X7_clear rfl (by decide +kernel) ⟨Nat.le_of_ble_eq_true rfl, Nat.le_of_ble_eq_true rfl⟩ ⟨Nat.le_of_ble_eq_true rfl, Nat.le_of_ble_eq_true rfl⟩ 0 rfl rfl (List.Perm.refl _) (List.Perm.refl _) rfl rfl (Nat.le_of_ble_eq_true rfl) dL_law_409 (st' := [.int r, .int r]) rfl rfl ?_
  refine lm_icmp_eq C (tgt := 835) dL_law_412 (by decide) rfl (fun _ => ?_) (fun c9 => absurd rfl c9)
  exact K
end LW1
