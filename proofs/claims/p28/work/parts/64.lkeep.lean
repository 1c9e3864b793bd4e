/-! throwing out, keeping: the law -/
section LG1
variable {g : Nat → Nat} {σ : Hp} {Mq Ml : List Nat}
theorem to_13 (g : Nat → Nat) (k : Nat) : to g k 2 = g 2 := by
  unfold to
  split
  · rw [un_ne _ _ (by omega), un_ne _ _ (by omega)]
  · rfl
theorem l_goesK (h : Ls σ g Mq Ml) {k : Nat} (hk : k < 10) : ∃ r σ' Mq' Ml', F_L_goes σ (nI k) = some (r, σ') ∧ Ls σ' (to g k) Mq' Ml' := by
  obtain ⟨τ, τ', o1, o2, o3, o4⟩ := l_out2 h.2.2.1 h.2.2.2.1 hk
  have hL2 := Ls_wo h hk o3 o4
  have e1 := Kl_len (Lk_KlQ h.2.2)
  have e2 := Kl_len (Lk_KlQ hL2.2.2)
  have m1 : F_L_many (lw_f1 (lm_ua (lm_ua σ 3 (τ 0)) 4 (τ' 0) 3)) = some (nI (wo Mq k).length) := l_many hL2.2.2.1
  unfold F_L_goes
  rw [l_many h.2.2.1, lm_bd_some, lm_br, if_pos (nI_pos' (by omega)), o1, lm_bd_some, lm_lt_eq, o2, lm_bd_some, lm_lt_eq, m1, lm_bd_some, lm_lt_eq, lu_c _ _ _ (by omega), m1, lm_bd_some, hL2.1 13 (by omega), un_ne _ _ (by omega)]
  unfold to
  by_cases w : 0 < g (97 + k)
  · have := kD_lose w 10 0 (by omega) (by omega)
    have e3 : Mq.length - (wo Mq k).length = 1 := by
      rw [e1, e2]
      unfold kno
      omega
    have e4 : (wo Mq k).length ≤ Mq.length := List.length_filter_le _ _
    rw [if_pos w, ev_sub e4, ev_add, e3]
    exact ⟨_, _, _, _, rfl, Ls_u hL2 (by omega) _⟩
  · have e3 : Mq.length - (wo Mq k).length = 0 := by
      have : wo Mq k = Mq := List.filter_eq_self.mpr (fun j hj => decide_eq_true (fun e => w (by rw [← e]; exact ((Lk_KlQ h.2.2).2 j).mp hj |>.2)))
      rw [this, Nat.sub_self]
    have e4 : (wo Mq k).length ≤ Mq.length := List.length_filter_le _ _
    rw [if_neg w, ev_sub e4, ev_add, e3]
    refine ⟨_, _, _, _, rfl, Ls_congr (Ls_u hL2 (by omega) _) (fun j hj _ => ?_)⟩
    by_cases q : j = 13
    · rw [q, un_same]
      rfl
    · rw [un_ne _ _ q]
      by_cases q2 : j = 97 + k
      · rw [q2, un_same]
        omega
      · rw [un_ne _ _ q2]
theorem l_goesA_L {x4 : Int32} : ∀ d n i (σ : Hp), i + d = 10 → d < n → (∀ j, j < i → σ 3 j = -1 ∧ σ 4 j = -1) → ∃ τ : Hp, F_L_goes_L13 n σ x4 (nI i) = F_L_goes_L13 1 τ x4 (nI 10) ∧ lr_R (τ 3) [] ∧ lr_R (τ 4) [] ∧ ∀ c, c ≠ 3 → c ≠ 4 → τ c = σ c := by
  intro d
  induction d with
  | zero =>
    intro n i σ hi hn h
    cases n with
    | zero => omega
    | succ n =>
      have : i = 10 := by omega
      subst this
      refine ⟨σ, ?_, ⟨Nat.zero_le _, fun k hk => absurd hk List.not_mem_nil, fun j hj => (h j hj).1⟩, ⟨Nat.zero_le _, fun k hk => absurd hk List.not_mem_nil, fun j hj => (h j hj).2⟩, fun c _ _ => rfl⟩
      rw [F_L_goes_L13, F_L_goes_L13, lm_br, if_pos (by decide), lm_br, if_pos (by decide)]
  | succ d ih =>
    intro n i σ hi hn h
    cases n with
    | zero => omega
    | succ n =>
      obtain ⟨τ, t1, t2, t3, t4⟩ := ih n (i + 1) (lm_u (lm_u σ 3 i (-1)) 4 i (-1)) (by omega) (by omega) (fun j hj => by
        by_cases q : j = i
        · rw [q, lu_same, lu_c _ _ _ (by omega), lu_same]
          exact ⟨rfl, rfl⟩
        · exact ⟨by rw [lu_c _ _ _ (by omega), lu_ne _ _ q]; exact (h j (by omega)).1, by rw [lu_ne _ _ q, lu_c _ _ _ (by omega)]; exact (h j (by omega)).2⟩)
      refine ⟨τ, ?_, t2, t3, fun c a b => ?_⟩
      · rw [F_L_goes_L13, lm_br, if_neg (show ¬ (10 : Int32) ≤ nI i from nI_ge (b := 10) (by omega) (by omega)), ev_gi (by omega) (by omega), lm_lt_eq, ev_gi (by omega) (by omega), lm_lt_eq, ev_cl (by omega), nI_1]
        exact t1
      · rw [t4 c a b, lu_c _ _ _ b, lu_c _ _ _ a]
theorem l_goesA (h : Ls σ g Mq Ml) : ∃ σ', F_L_goes σ (-1) = some (nI (kno g), σ') ∧ Ls σ' (la g) [] [] := by
  obtain ⟨τ, t1, t2, t3, t4⟩ := l_goesA_L (x4 := nI Mq.length) 10 1000 0 σ (by omega) (by omega) (fun j hj => absurd hj (Nat.not_lt_zero j))
  have e1 := Kl_len (Lk_KlQ h.2.2)
  have m1 : F_L_many (lw_f1 (τ 3)) = some (nI 0) := l_many t2
  have z : F_L_goes σ (-1) = some (nI (kno g), lm_u τ 0 13 (nI (g 13 + kno g))) := by
    unfold F_L_goes
    rw [l_many h.2.2.1, lm_bd_some, lm_br, if_neg (by decide)]
    refine t1.trans ?_
    rw [F_L_goes_L13, lm_br, if_pos (by decide), m1, lm_bd_some, lm_lt_eq, lu_c _ _ _ (by omega), m1, lm_bd_some, t4 0 (by omega) (by omega), h.1 13 (by omega), ev_sub (Nat.zero_le _), ev_add, e1]
    rfl
  have l13 : la g 13 = g 13 + kno g := by
    show (if 97 + 0 ≤ 13 ∧ 13 < 97 + 0 + 10 then 0 else if 13 = 13 then g 13 + kD g 10 0 else g 13) = _
    rw [if_neg (by omega), if_pos rfl]
    rfl
  have lo : ∀ j, j ≠ 13 → ¬ (97 ≤ j ∧ j < 107) → la g j = g j := fun j a b => by
    show (if 97 + 0 ≤ j ∧ j < 97 + 0 + 10 then 0 else if j = 13 then g 13 + kD g 10 0 else g j) = _
    rw [if_neg (by omega), if_neg a]
  have l0 : ∀ k, k < 10 → la g (97 + k) = 0 := fun k hk => by
    show (if 97 + 0 ≤ 97 + k ∧ 97 + k < 97 + 0 + 10 then 0 else if 97 + k = 13 then g 13 + kD g 10 0 else g (97 + k)) = _
    rw [if_pos (by omega)]
  refine ⟨_, z, fun j hj => ?_, fun j hj => ?_, ?_, ?_, fun k hk hg => ?_, ⟨fun k => Iff.rfl, List.Pairwise.nil, List.Pairwise.nil⟩, fun k => ?_⟩
  · by_cases q : j = 13
    · rw [q, lu_same, l13]
    · rw [lu_ne _ _ q, lo j q (by omega), t4 0 (by omega) (by omega)]
      exact h.1 j hj
  · rw [lu_c _ _ _ (by omega), lu_c _ _ _ (by omega), lo _ (by omega) (by omega), lo _ (by omega) (by omega), t4 1 (by omega) (by omega), t4 2 (by omega) (by omega)]
    exact h.2.1 j hj
  · rw [lu_c _ _ _ (by omega)]
    exact t2
  · rw [lu_c _ _ _ (by omega)]
    exact t3
  · rw [l0 k hk] at hg
    exact absurd hg (Nat.lt_irrefl 0)
  · constructor
    · intro q
      exact absurd q List.not_mem_nil
    · intro q
      rw [l0 k q.1] at q
      exact absurd q.2 (Nat.lt_irrefl 0)
theorem ka_to (h2 : g 2 ≠ 2) (k : Nat) : ka g k = to g k := by
  unfold ka to
  rw [if_neg h2]
theorem l_hasS (h : Ls σ g Mq Ml) {k : Nat} (hk : k < 10) : F_L_has (lw_f1 (σ 3)) (nI k) = some (if 0 < g (97 + k) then nI 1 else nI 0) := by
  rw [l_has h.2.2.1 hk]
  by_cases w : 0 < g (97 + k)
  · rw [if_pos w, if_pos (((Lk_KlQ h.2.2).2 k).mpr ⟨hk, w⟩)]
  · rw [if_neg w, if_neg (fun z => w (((Lk_KlQ h.2.2).2 k).mp z).2)]
theorem l_kept (h : Ls σ g Mq Ml) (h2 : g 2 ≤ 2) {a b : Nat} (ha : a < 10) (hb : b < 10) : ∃ σ' Mq' Ml', F_L_kept σ (nI a) (nI b) = some σ' ∧ Ls σ' (kp g a b) Mq' Ml' := by
  have u2 : σ 0 2 = nI (g 2) := h.1 2 (by omega)
  have hab : (nI a = nI b) ↔ a = b := nI_eq (by omega) (by omega)
  unfold F_L_kept
  rw [u2, l_hasS h ha, l_hasS h hb, lm_bd_some]
  have c3 : g 2 = 0 ∨ g 2 = 1 ∨ g 2 = 2 := by omega
  rcases c3 with c | c | c
  · rw [kp_ka ha hb (by omega) h2, c, lm_br, if_pos (by decide), lm_br, if_pos (by decide)]
    obtain ⟨r, σ1, q1, l1, g1, g2⟩ := l_goesK h ha
    have c1 : to g a 2 = 0 := (to_13 g a).trans c
    obtain ⟨r', σ2, q2, l2, g3, g4⟩ := l_goesK g2 hb
    have u2' : σ1 0 2 = nI 0 := by rw [g2.1 2 (by omega), c1]
    rw [g1, lm_b2_some, u2', lm_br, if_neg (by decide), g3, lm_b2_some]
    refine ⟨σ2, q2, l2, rfl, ?_⟩
    have hka : ka g a = to g a := ka_to (by omega) a
    by_cases e : b = a
    · rw [if_pos e, hka]
      subst e
      have : to (to g b) b = to g b := by
        by_cases w : 0 < g (97 + b)
        · have z : to g b (97 + b) = 0 := by
            unfold to
            rw [if_pos w, un_ne _ _ (by omega), un_same]
          rw [show to (to g b) b = if 0 < to g b (97 + b) then un (un (to g b) (97 + b) 0) 13 (to g b 13 + 1) else to g b from rfl, z, if_neg (Nat.lt_irrefl 0)]
        · have z : to g b = g := by
            unfold to
            rw [if_neg w]
          rw [z, z]
      rw [this] at g4
      exact g4
    · rw [if_neg e, hka, ka_to (by rw [c1]; decide)]
      exact g4
  · have hkp : kp g a b = la g := by
      unfold kp
      rw [if_pos c]
    obtain ⟨σ1, g1, g2⟩ := l_goesA h
    have u2' : σ1 0 2 = nI 1 := by rw [g2.1 2 (by omega), la_2, c]
    rw [hkp, c, lm_br, if_pos (by decide), lm_br, if_neg (by decide), g1, lm_b2_some, u2', lm_br, if_pos (by decide)]
    exact ⟨_, _, _, rfl, g2⟩
  · have hka : ∀ g' : Nat → Nat, g' 2 = 2 → ∀ k, ka g' k = if 0 < g' (97 + k) then un g' 15 (g' 15 + 1) else g' := fun g' e k => by
      unfold ka
      rw [if_pos e]
    rw [kp_ka ha hb (by omega) h2, c, lm_br, if_neg (by decide), hka g c a, h.1 15 (by omega)]
    have e0 : nI (g 15) + (0 : Int32) = nI (g 15) := nI_add (g 15) 0
    have e1 : nI (g 15) + (1 : Int32) = nI (g 15 + 1) := nI_add (g 15) 1
    have e2 : nI (g 15) + (2 : Int32) = nI (g 15 + 2) := nI_add (g 15) 2
    have same : Ls (lm_u σ 0 15 (nI (g 15))) g Mq Ml := Ls_congr (Ls_u h (by omega) (g 15)) (fun j hj _ => by
      by_cases q : j = 15
      · rw [q, un_same]
      · rw [un_ne _ _ q])
    have plus : Ls (lm_u σ 0 15 (nI (g 15 + 1))) (un g 15 (g 15 + 1)) Mq Ml := Ls_u h (by omega) _
    rw [e0, e1, e2]
    by_cases w : 0 < g (97 + a)
    · rw [if_pos w, if_pos w, lm_br, if_neg (by decide), lm_br]
      by_cases e : a = b
      · rw [if_pos (hab.mpr e), if_pos e.symm, lm_lt_eq]
        exact ⟨_, _, _, rfl, plus⟩
      · have k1 : un g 15 (g 15 + 1) (97 + b) = g (97 + b) := un_ne _ _ (by omega)
        rw [if_neg (fun z => e (hab.mp z)), if_neg (show ¬ b = a from fun z => e z.symm), lm_bd_some, lm_br, hka _ ((un_ne _ _ (by omega)).trans c) b, k1]
        by_cases w2 : 0 < g (97 + b)
        · rw [if_pos w2, if_pos w2, if_neg (by decide), lm_lt_eq, un_same]
          refine ⟨_, _, _, rfl, Ls_congr (Ls_u h (i := 15) (by omega) (g 15 + 2)) (fun j hj _ => ?_)⟩
          by_cases q : j = 15
          · rw [q, un_same, un_same]
          · rw [un_ne _ _ q, un_ne _ _ q, un_ne _ _ q]
        · rw [if_neg w2, if_neg w2, if_pos (by decide), lm_lt_eq]
          exact ⟨_, _, _, rfl, plus⟩
    · rw [if_neg w, if_neg w, lm_br, if_pos (by decide), lm_br]
      by_cases e : a = b
      · rw [if_pos (hab.mpr e), if_pos e.symm, lm_lt_eq]
        exact ⟨_, _, _, rfl, same⟩
      · rw [if_neg (fun z => e (hab.mp z)), if_neg (show ¬ b = a from fun z => e z.symm), lm_bd_some, lm_br, hka g c b]
        by_cases w2 : 0 < g (97 + b)
        · rw [if_pos w2, if_pos w2, if_neg (by decide), lm_lt_eq]
          exact ⟨_, _, _, rfl, plus⟩
        · rw [if_neg w2, if_neg w2, if_pos (by decide), lm_lt_eq]
          exact ⟨_, _, _, rfl, same⟩
end LG1
