/-! what is told: the order in which answers would go -/
section AT1
variable {t c : Nat} {h : Nat → Hp} {g : Nat → Nat}
theorem l_tal_L (hG : GC t c h g) (hu : Lu (h 9) g) : ∀ d n k, k + d = 9 → d < n → F_L_areTold_L101 n h 1 (nI k) = F_L_areTold_L181 1000 h (fun _ _ => (0 : Int32)) 1 0 := by
  intro d
  induction d with
  | zero =>
    intro n k hk hn
    cases n with
    | zero => omega
    | succ n => rw [F_L_areTold_L101, lm_br, if_pos (show (9 : Int32) ≤ nI k from nI_le (a := 9) (by omega) (by omega))]
  | succ d ih =>
    intro n k hk hn
    cases n with
    | zero => omega
    | succ n =>
      have nx := ih n (k + 1) (by omega) (by omega)
      have e4 : (4 : Int32) + nI k = nI (4 + k) := nI_add 4 k
      have e7 : (7 : Int32) + nI k = nI (7 + k) := nI_add 7 k
      have e13 : (13 : Int32) + nI k = nI (13 + k) := nI_add 13 k
      rw [F_L_areTold_L101, lm_br, if_neg (show ¬ (9 : Int32) ≤ nI k from nI_ge (b := 9) (by omega) (by omega)), lm_br, if_neg (by decide), e4, e7, e13, as_cA hG (by omega), lm_bd_some, ev_gi (by omega) (by omega), ev_cl (by omega), hu (7 + k) (by omega), lm_br, if_neg (not_not_intro rfl), lm_br, nI_1]
      by_cases q : 4 < k
      · rw [if_pos (show (4 : Int32) < nI k from nI_lt (a := 4) q (by omega))]
        exact nx
      · rw [if_neg (show ¬ (4 : Int32) < nI k from nI_nlt (a := 4) (by omega) (by omega)), as_cB hG (by omega), lm_bd_some, ev_gi (by omega) (by omega), ev_cl (by omega), hu k (by omega), lm_br, if_neg (not_not_intro rfl)]
        exact nx
theorem l_copy_L : ∀ d n k (ν : Hp), k + d = 10 → d < n → (∀ j, j < k → ν 0 j = h 9 3 j ∧ ν 1 j = h 9 4 j) → ∃ ν' : Hp, F_L_areTold_L181 n h ν 1 (nI k) = F_L_areTold_L217 1000 h ν' 1 0 ∧ ∀ j, j < 10 → ν' 0 j = h 9 3 j ∧ ν' 1 j = h 9 4 j := by
  intro d
  induction d with
  | zero =>
    intro n k ν hk hn hν
    cases n with
    | zero => omega
    | succ n =>
      refine ⟨ν, ?_, fun j hj => hν j (by omega)⟩
      rw [F_L_areTold_L181, lm_br, if_pos (show (10 : Int32) ≤ nI k from nI_le (a := 10) (by omega) (by omega))]
  | succ d ih =>
    intro n k ν hk hn hν
    cases n with
    | zero => omega
    | succ n =>
      obtain ⟨ν', a1, a2⟩ := ih n (k + 1) (lm_u (lm_u ν 0 k (h 9 3 k)) 1 k (h 9 4 k)) (by omega) (by omega) (fun j hj => by
        by_cases q : j = k
        · subst q
          exact ⟨by rw [lu_c _ _ _ (by omega), lu_same], by rw [lu_same]⟩
        · exact ⟨by rw [lu_c _ _ _ (by omega), lu_ne _ _ q]; exact (hν j (by omega)).1, by rw [lu_ne _ _ q, lu_c _ _ _ (by omega)]; exact (hν j (by omega)).2⟩)
      refine ⟨ν', ?_, a2⟩
      rw [F_L_areTold_L181, lm_br, if_neg (show ¬ (10 : Int32) ≤ nI k from nI_ge (b := 10) (by omega) (by omega)), ev_gi (by omega) (by omega), ev_gi (by omega) (by omega), lm_lt_eq, ev_gi (by omega) (by omega), ev_gi (by omega) (by omega), lm_lt_eq, ev_cl (by omega), nI_1]
      exact a1
theorem oD_len (g : Nat → Nat) (q : Nat) : ∀ d k, oD g q d k = ((List.range' k d).filter (fun j => knb g j && ah g j q)).length
  | 0, _ => rfl
  | d + 1, k => by
    rw [oD, List.range'_succ, oD_len g q d (k + 1)]
    by_cases w : 0 < g (97 + k)
    · have wk : knb g k = true := decide_eq_true w
      rw [if_pos w]
      by_cases v : ah g k q = true
      · rw [if_pos v, List.filter_cons_of_pos (by rw [wk, v]; rfl), List.length_cons, Nat.add_comm]
      · rw [if_neg v, List.filter_cons_of_neg (by rw [wk, Bool.true_and]; exact v), Nat.zero_add]
    · have wk : knb g k = false := decide_eq_false w
      rw [if_neg w, List.filter_cons_of_neg (by rw [wk, Bool.false_and]; exact Bool.false_ne_true), Nat.zero_add]
theorem oD_Kl {M : List Nat} (h : Kl g M) (q : Nat) : oD g q 10 0 = (M.filter (fun j => ah g j q)).length := by
  rw [oD_len, ((Kl_perm h).filter _).length_eq, List.filter_filter]
  congr 2
  funext j
  exact Bool.and_comm _ _
theorem wo_len : ∀ {M : List Nat} {k : Nat}, M.Nodup → k ∈ M → (wo M k).length + 1 = M.length
  | [], k, _, hk => absurd hk List.not_mem_nil
  | j :: M, k, hn, hk => by
    obtain ⟨n1, n2⟩ := List.nodup_cons.mp hn
    unfold wo
    by_cases q : j = k
    · subst q
      have f : M.filter (fun i => decide (i ≠ j)) = M := List.filter_eq_self.mpr (fun x hx => decide_eq_true (show x ≠ j from fun e => n1 (by rw [← e]; exact hx)))
      rw [List.filter_cons_of_neg (by simp), f, List.length_cons]
    · rw [List.filter_cons_of_pos (by simp [q]), List.length_cons, List.length_cons]
      have hk' : k ∈ M := by
        rcases List.mem_cons.mp hk with z | z
        · exact absurd z.symm q
        · exact z
      have := wo_len n2 hk'
      unfold wo at this
      omega
/-- what is left of the rows, the first p of the order out -/
def Lf (g : Nat → Nat) (Ml Rq Rl : List Nat) : Prop := Od g Rq Rl ∧ (∀ x ∈ Rl, x ∈ Ml) ∧ ∀ x ∈ Ml, x ∉ Rl → ∀ y ∈ Rl, ah g x y = true
theorem Lf_place {Ml Rq Rl : List Nat} (hK : Kl g Ml) (hS : So (fun k => k ∈ Ml) (ah g)) (h : Lf g Ml Rq Rl) {b : Nat} (hb : b ∈ Rl) (hm : ∀ k ∈ Rl, k ≠ b → ah g b k = true) : oD g b 10 0 + Rl.length = kno g := by
  obtain ⟨h1, h2, h3⟩ := h
  have hbM := h2 b hb
  have ef : Ml.filter (fun j => ah g j b) = Ml.filter (fun j => decide (j ∉ Rl)) := by
    refine List.filter_congr (fun x hx => ?_)
    by_cases q : x ∈ Rl
    · rw [decide_eq_false (not_not_intro q)]
      by_cases e : x = b
      · subst e
        cases v : ah g x x with
        | false => rfl
        | true => exact absurd v (hS.2.2.1 x x hbM hbM v)
      · cases v : ah g x b with
        | false => rfl
        | true => exact absurd v (hS.2.2.1 b x hbM hx (hm x q e))
    · rw [decide_eq_true q]
      exact h3 x hx q b hb
  have nR : Rl.Nodup := pw_nodup (t := fun a => g (107 + a)) h1.2.2
  have pR : (Ml.filter (fun j => decide (j ∈ Rl))).length = Rl.length := by
    refine ((List.perm_ext_iff_of_nodup (List.Pairwise.filter _ hK.1) nR).mpr (fun x => ?_)).length_eq
    rw [List.mem_filter, decide_eq_true_eq]
    exact ⟨fun z => z.2, fun z => ⟨h2 x z, z⟩⟩
  have tot : (Ml.filter (fun j => decide (j ∈ Rl))).length + (Ml.filter (fun j => decide (j ∉ Rl))).length = Ml.length := by
    have := List.length_eq_countP_add_countP (fun j => decide (j ∈ Rl)) (l := Ml)
    rw [List.countP_eq_length_filter, List.countP_eq_length_filter] at this
    rw [this]
    congr 2
    refine List.filter_congr (fun x _ => ?_)
    by_cases q : x ∈ Rl <;> simp [q]
  rw [oD_Kl hK, ef, ← Kl_len hK]
  omega
theorem l_ord_L (hA : GC t c h g) {Mq Ml : List Nat} (hL : Ls (h 9) g Mq Ml) : ∀ d n p (ν : Hp) (Rq Rl : List Nat), Rl.length = d → p + d = kno g → d < n → lr_R (ν 0) Rq → lr_R (ν 1) Rl → Lf g Ml Rq Rl → ∃ ν' : Hp, F_L_areTold_L217 n h ν 1 (nI p) = F_L_areTold_L302 1000 h ν' 1 0 := by
  have hK := Lk_KlL hL.2.2
  have hk10 := kno_le g
  have hIn := hA.inn
  have hkc := hIn.kc
  have hm : F_L_many (lw_f1 (h 9 3)) = some (nI (kno g)) := by rw [l_many hL.2.2.1, Kl_len (Lk_KlQ hL.2.2)]
  have hS : So (fun k => k ∈ Ml) (ah g) := So_ah (Od_Ds hL.2.2.2.2.2.1 hL.2.2.2.1.2.1)
  intro d
  induction d with
  | zero =>
    intro n p ν Rq Rl hl hp hn r0 r1 hf
    cases n with
    | zero => omega
    | succ n =>
      refine ⟨ν, ?_⟩
      rw [F_L_areTold_L217, hm, lm_bd_some, lm_br, if_pos (nI_le (by omega) (by omega))]
  | succ d ih =>
    intro n p ν Rq Rl hl hp hn r0 r1 hf
    cases n with
    | zero => omega
    | succ n =>
      obtain ⟨hO, hsub, hah⟩ := id hf
      have hkm : ∀ k ∈ Rl, h 9 5 k = nI (g (97 + k)) ∧ g (97 + k) < 1073741824 := fun k hk => by
        obtain ⟨q1, q2⟩ := (hK.2 k).mp (hsub k hk)
        exact ⟨hL.2.2.2.2.1 k q1 q2, (hkc.2 k q1).1⟩
      have hfst := l_first (u := h 9 0) (fn := h 9 5) (hL.1 1 (by omega)) hkc.1 r0 r1 hO hkm (sp := 10) (spi := -1) (Or.inr ⟨Nat.le_refl _, rfl⟩)
      have hmem : ∀ k ∈ rw_ g Rq Rl, k ∈ Ml := fun k hk => hsub k ((rw_mem hO k).mp hk)
      obtain ⟨b, hb⟩ : ∃ b, rb (ah g) 10 (rw_ g Rq Rl) 10 = b := ⟨_, rfl⟩
      rw [hb] at hfst
      have spec := rb_spec hS 10 (rw_ g Rq Rl) 10 hmem (Or.inl rfl)
      rw [hb] at spec
      rcases spec with ⟨-, -, a3⟩ | ⟨a1, a2, a3, a4, -⟩
      · exfalso
        have hne : ∃ x, x ∈ Rl := by
          cases Rl with
          | nil => cases hl
          | cons x _ => exact ⟨x, List.mem_cons_self⟩
        obtain ⟨x, hx⟩ := hne
        have := a3 x ((rw_mem hO x).mpr hx)
        have := r1.2.1 x hx
        omega
      · have b10 : b < 10 := hS.1 b a1
        have hbR : b ∈ Rl := by
          rcases a3 with a3 | a3
          · omega
          · exact (rw_mem hO b).mp a3
        have hmin : ∀ k ∈ Rl, k ≠ b → ah g b k = true := fun k hk hn => a4 k ((rw_mem hO k).mpr hk) (by have := r1.2.1 k hk; omega) hn
        obtain ⟨q1, q2⟩ := (hK.2 b).mp a1
        have hplace := Lf_place hK hS hf hbR hmin
        have e5 : oD g b 10 0 = p := by omega
        have r5 := as_rem5 hA q1 q2
        rw [e5] at r5
        have nR : Rl.Nodup := pw_nodup (t := fun a => g (107 + a)) hO.2.2
        obtain ⟨τ, o1, o2⟩ := l_out r0 b10
        obtain ⟨τ', o3, o4⟩ := l_out r1 b10
        have o3' : F_L_out (lw_f1 (lm_ua ν 0 (τ 0) 1)) (nI b) = some τ' := by rw [ua_c _ _ (by omega)]; exact o3
        obtain ⟨ν', i1⟩ := ih n (p + 1) (lm_ua (lm_ua ν 0 (τ 0)) 1 (τ' 0)) (wo Rq b) (wo Rl b) (by have := wo_len nR hbR; omega) (by omega) (by omega) (by rw [ua_c _ _ (by omega), ua_same]; exact o2) (by rw [ua_same]; exact o4) ⟨⟨fun k => by rw [mem_wo, mem_wo, hO.1 k], List.Pairwise.filter _ hO.2.1, List.Pairwise.filter _ hO.2.2⟩, fun x hx => hsub x (mem_wo.mp hx).1, fun x hx hn y hy => by
          obtain ⟨y1, y2⟩ := mem_wo.mp hy
          by_cases e : x = b
          · rw [e]
            exact hmin y y1 y2
          · exact hah x hx (fun z => hn (mem_wo.mpr ⟨z, e⟩)) y y1⟩
        refine ⟨ν', ?_⟩
        rw [F_L_areTold_L217, hm, lm_bd_some, lm_br, if_neg (nI_ge (by omega) (by omega)), lm_br, if_neg (by decide), hfst, lm_bd_some, nk_lt b10, r5, lm_bd_some, lm_br, if_neg (not_not_intro rfl), as_rem4 hA q1 q2, lm_bd_some, ev_gi (by omega) (by omega), ev_cl (by omega), (hkm b hbR).1, lm_br, if_neg (not_not_intro rfl), o1, lm_bd_some, lm_lt_eq, o3', lm_bd_some, lm_lt_eq, nI_1]
        exact i1
/-- the first row of an answer from r on, as it is told -/
def fv (g : Nat → Nat) (k r : Nat) : Int32 := if cD g k (g 5 - r) r = 0 then -4 else nI (fD g k (g 5 - r) r)
theorem l_fst_L (hL : Lu (h 9) g) (hL2 : Li (h 9) g) (hR : Rin g) {k : Nat} (hk : k < 10) (ν : Hp) : ∀ r n, r ≤ g 5 → r < n → F_L_areTold_L325 n h ν (nI k) (fv g k r) (nI r - 1) = some (fv g k 0) := by
  obtain ⟨b5, b3, b4, hrow⟩ := hR
  intro r
  induction r with
  | zero =>
    intro n hr hn
    cases n with
    | zero => omega
    | succ n => rw [F_L_areTold_L325, show nI 0 - (1 : Int32) = -1 from by decide, lm_br, if_pos (by decide)]
  | succ r ih =>
    intro n hr hn
    cases n with
    | zero => omega
    | succ n =>
      obtain ⟨r1, r2⟩ := hrow r (by omega)
      have e2 : (2 : Int32) * nI r = nI (2 * r) := by rw [ev_k2, ev_mul]
      have v : h 9 1 (2 * r + 1) = nI (g (18 + 2 * r)) := by
        rw [(hL2 _ (by omega)).1]
        congr 2
        omega
      have nx := ih n (by omega) (by omega)
      have es : g 5 - r = (g 5 - (r + 1)) + 1 := by omega
      have fs : fv g k r = if mt g k r = true then nI r else fv g k (r + 1) := by
        unfold fv
        rw [es, cD, fD]
        by_cases m : mt g k r = true
        · rw [if_pos m, if_pos m, if_pos m, if_neg (by omega)]
        · rw [if_neg m, if_neg m, if_neg m, Nat.zero_add]
      rw [F_L_areTold_L325, nI_pred, lm_br, if_neg (nI_pos (by omega)), e2, nI_1, ev_gi (by omega) (by omega), ev_cl (by omega), ev_cl (by omega), (hL2 _ (by omega)).1, v, hL 3 (by omega), hL 4 (by omega), m1_eq, lm_br]
      by_cases c1 : g (17 + 2 * r) = k
      · rw [if_neg (not_not_intro (by rw [c1])), ev_gi (by omega) (by omega), lm_br]
        by_cases c2 : g 3 ≤ g (18 + 2 * r)
        · rw [if_neg (nI_nlt c2 (by omega)), ev_gi (by omega) (by omega), lm_br]
          by_cases c3 : g (18 + 2 * r) ≤ g 4
          · have m : mt g k r = true := by simp [mt, c1, c2, c3]
            rw [if_neg (nI_nlt c3 (by omega))]
            rw [fs, if_pos m] at nx
            exact nx
          · have m : ¬ mt g k r = true := by
              simp only [mt, Bool.and_eq_true, decide_eq_true_eq]
              exact fun z => c3 z.2
            rw [if_pos (nI_lt (by omega) (by omega))]
            rw [fs, if_neg m] at nx
            exact nx
        · have m : ¬ mt g k r = true := by
            simp only [mt, Bool.and_eq_true, decide_eq_true_eq]
            exact fun z => c2 z.1.2
          rw [if_pos (nI_lt (by omega) (by omega))]
          rw [fs, if_neg m] at nx
          exact nx
      · have m : ¬ mt g k r = true := by
          simp only [mt, Bool.and_eq_true, decide_eq_true_eq]
          exact fun z => c1 z.1.1
        rw [if_pos (fun z => c1 ((nI_eq (by omega) (by omega)).mp z))]
        rw [fs, if_neg m] at nx
        exact nx
theorem l_keys_L (hA : GC t c h g) {Mq Ml : List Nat} (hL : Ls (h 9) g Mq Ml) (ν : Hp) : ∀ d n k, k + d = 10 → d < n → F_L_areTold_L302 n h ν 1 (nI k) = some 1 := by
  have hR := hA.inn.1
  have b5 := hR.1
  have u5 : h 9 0 5 = nI (g 5) := hL.1 5 (by omega)
  intro d
  induction d with
  | zero =>
    intro n k hk hn
    cases n with
    | zero => omega
    | succ n =>
      rw [F_L_areTold_L302, lm_br, if_pos (show (10 : Int32) ≤ nI k from nI_le (a := 10) (by omega) (by omega))]
      rfl
  | succ d ih =>
    intro n k hk hn
    cases n with
    | zero => omega
    | succ n =>
      have k10 : k < 10 := by omega
      have nx := ih n (k + 1) (by omega) (by omega)
      have f0 := l_fst_L hL.1 hL.2.1 hR k10 ν (g 5) 1000 (Nat.le_refl _) (by omega)
      have f1 : fv g k (g 5) = -4 := by
        unfold fv
        rw [Nat.sub_self, cD, if_pos rfl]
      have f2 : fv g k 0 = tl g k 3 := by
        have t3 : tl g k 3 = if cnt g k = 0 then -4 else nI (fs g k) := by
          unfold tl
          rw [if_neg (by decide), if_neg (by decide), if_neg (by decide)]
        exact (show fv g k 0 = if cnt g k = 0 then -4 else nI (fs g k) from rfl).trans t3.symm
      rw [f1, f2] at f0
      have t0 : tl g k 0 = nI (cnt g k) := if_pos rfl
      have t1 : tl g k 1 = nI (2 + cnt g k) := by
        unfold tl
        rw [if_neg (by decide), if_pos rfl]
      have t2 : tl g k 2 = nI (sm g k) := by
        unfold tl
        rw [if_neg (by decide), if_neg (by decide), if_pos rfl]
      have em : nI (2 + cnt g k) - (2 : Int32) = nI (cnt g k) := (ev_sub (b := 2) (by omega)).trans (by rw [Nat.add_sub_cancel_left])
      have an0 : F_X6_answer h (nI k) 0 = some (tl g k 0) := as_answer hA k10 (w := 0) (by omega)
      have an1 : F_X6_answer h (nI k) 1 = some (tl g k 1) := as_answer hA k10 (w := 1) (by omega)
      have an2 : F_X6_answer h (nI k) 2 = some (tl g k 2) := as_answer hA k10 (w := 2) (by omega)
      have an3 : F_X6_answer h (nI k) 3 = some (tl g k 3) := as_answer hA k10 (w := 3) (by omega)
      rw [F_L_areTold_L302, lm_br, if_neg (show ¬ (10 : Int32) ≤ nI k from nI_ge (b := 10) (by omega) (by omega)), lm_br, if_neg (by decide), u5, f0, lm_bd_some, l_weight0 hL.1 hL.2.1 hR k10, lm_bd_some, l_weight1 hL.1 hL.2.1 hR k10, lm_bd_some, l_hasS hL k10, lm_bd_some, an0, lm_bd_some, t0, em, lm_br, if_neg (not_not_intro rfl), an1, lm_bd_some, t1, lm_br, if_neg (not_not_intro rfl), an2, lm_bd_some, t2, lm_br, if_neg (not_not_intro rfl), an3, lm_bd_some, lm_br, if_neg (not_not_intro rfl), nI_1]
      by_cases w : 0 < g (97 + k)
      · have re0 : F_X6_remembered h (nI k) 0 = some (tl g k 0) := as_remT hA k10 (w := 0) (by omega) w
        have re1 : F_X6_remembered h (nI k) 1 = some (tl g k 1) := as_remT hA k10 (w := 1) (by omega) w
        have re2 : F_X6_remembered h (nI k) 2 = some (tl g k 2) := as_remT hA k10 (w := 2) (by omega) w
        have re3 : F_X6_remembered h (nI k) 3 = some (tl g k 3) := as_remT hA k10 (w := 3) (by omega) w
        rw [re0, lm_bd_some, t0, if_pos w, lm_br, if_neg (by decide), lm_br, if_neg (not_not_intro rfl), re1, lm_bd_some, t1, lm_br, if_neg (not_not_intro rfl), re2, lm_bd_some, t2, lm_br, if_neg (not_not_intro rfl), re3, lm_bd_some, lm_br, if_neg (not_not_intro rfl)]
        exact nx
      · have re0 : F_X6_remembered h (nI k) 0 = some (-4) := as_remU hA k10 (w := 0) (by omega) w
        have re1 : F_X6_remembered h (nI k) 1 = some (-4) := as_remU hA k10 (w := 1) (by omega) w
        have re2 : F_X6_remembered h (nI k) 2 = some (-4) := as_remU hA k10 (w := 2) (by omega) w
        have re3 : F_X6_remembered h (nI k) 3 = some (-4) := as_remU hA k10 (w := 3) (by omega) w
        have re4 : F_X6_remembered h (nI k) 4 = some (-4) := as_remU hA k10 (w := 4) (by omega) w
        have re5 : F_X6_remembered h (nI k) 5 = some (-4) := as_remU hA k10 (w := 5) (by omega) w
        rw [re0, lm_bd_some, if_neg w, lm_br, if_pos (by decide), lm_br, if_neg (not_not_intro rfl), re1, lm_bd_some, lm_br, if_neg (not_not_intro rfl), re2, lm_bd_some, lm_br, if_neg (not_not_intro rfl), re3, lm_bd_some, lm_br, if_neg (not_not_intro rfl), re4, lm_bd_some, lm_br, if_neg (not_not_intro rfl), re5, lm_bd_some, lm_br, if_neg (not_not_intro rfl)]
        exact nx
/-- a rate is equal to itself -/
theorem rD_self (x y : Int32) : Op.cmpValue (FP.dcmp (rD x y) (rD x y)) .l = 0 := by
  unfold rD
  by_cases q : x + y = 0
  · rw [if_pos q]
    decide
  · rw [if_neg q]
    have h1 : FP.Core.dIsNaN (FP.Core.ddiv (FP.Core.i2d x) (FP.Core.i2d (x + y))) = false := FP.Core.ddiv_out (FP.Core.i2d_fin x).notNaN (FP.Core.i2d_fin _) (fun z => FP.Core.i2d_ne_zero q ((FP.Core.zero_bits2 _).mp z))
    have h2 : FP.dcmp (FP.ddiv (FP.i2d x) (FP.i2d (x + y))) (FP.ddiv (FP.i2d x) (FP.i2d (x + y))) = some .eq := FP.Core.dcmp_self ((FP.Core.notNaN_iff _).mp h1)
    rw [h2]
    rfl
theorem l_areTold (hA : GA t c h g) : F_L_areTold h = some 1 := by
  obtain ⟨hG, Mq, Ml, hL⟩ := hA
  have hR := hG.inn.1
  have u5 : h 9 0 5 = nI (g 5) := hL.1 5 (by omega)
  have u6 : h 9 0 6 = nI (g 6) := hL.1 6 (by omega)
  have u9 : h 9 0 9 = h 0 16 0 := (hL.1 9 (by omega)).trans (as_tal hG (j := 0) (by omega)).symm
  have u10 : h 9 0 10 = h 0 16 1 := (hL.1 10 (by omega)).trans (as_tal hG (j := 1) (by omega)).symm
  have b5 := hR.1
  have z1 := l_tal_L hG hL.1 9 1000 0 (by omega) (by omega)
  obtain ⟨ν1, z2, z3⟩ := l_copy_L (h := h) 10 1000 0 (fun _ _ => (0 : Int32)) (by omega) (by omega) (fun j hj => absurd hj (Nat.not_lt_zero j))
  have hq : lr_R (ν1 0) Mq := ⟨hL.2.2.1.1, hL.2.2.1.2.1, fun i hi => (z3 i hi).1.trans (hL.2.2.1.2.2 i hi)⟩
  have hl : lr_R (ν1 1) Ml := ⟨hL.2.2.2.1.1, hL.2.2.2.1.2.1, fun i hi => (z3 i hi).2.trans (hL.2.2.2.1.2.2 i hi)⟩
  have hK := Kl_len (Lk_KlL hL.2.2)
  have hk10 := kno_le g
  obtain ⟨ν2, z4⟩ := l_ord_L hG hL Ml.length 1000 0 ν1 Mq Ml rfl (by omega) (by omega) hq hl ⟨hL.2.2.2.2.2.1, fun x hx => hx, fun x hx hn => absurd hx hn⟩
  have z5 := l_keys_L hG hL ν2 10 1000 0 (by omega) (by omega)
  have fin : F_L_areTold_L101 1000 h 1 0 = some 1 := z1.trans (z2.trans (z4.trans z5))
  unfold F_L_areTold
  rw [as_c0 hG, lm_bd_some, u6, lm_br, if_neg (not_not_intro rfl), as_c1 hG, lm_bd_some, u5, lm_br, if_neg (not_not_intro rfl), as_c2 hG, lm_bd_some, l_many hL.2.2.1, lm_bd_some, Kl_len (Lk_KlQ hL.2.2), lm_br, if_neg (not_not_intro rfl), as_c3 hG, lm_bd_some, l_weights hL.1 hL.2.1 hR hL.2.2.1 (Lk_KlQ hL.2.2), lm_bd_some, lm_br, if_neg (not_not_intro rfl), u9, u10, lm_br]
  have self := rD_self (h 0 16 0) (h 0 16 1)
  by_cases q : h 0 16 0 + h 0 16 1 = 0
  · have e : rD (h 0 16 0) (h 0 16 1) = FP.dconst0 := if_pos q
    rw [e] at self
    rw [if_neg (not_not_intro q), e, self, lm_br, if_neg (by decide)]
    exact fin
  · have e : rD (h 0 16 0) (h 0 16 1) = FP.ddiv (FP.i2d (h 0 16 0)) (FP.i2d (h 0 16 0 + h 0 16 1)) := if_neg q
    rw [e] at self
    rw [if_pos q, e, self, lm_br, if_neg (by decide)]
    exact fin
end AT1
