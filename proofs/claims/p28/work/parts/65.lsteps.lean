/-! looking up, steps: the law -/
section LL1
variable {g : Nat → Nat} {σ : Hp} {Mq Ml : List Nat}
theorem lr_app {f f' : Nat → Int32} {M : List Nat} (h : lr_R f M) (h10 : M.length < 10) {k : Nat} (hk : k < 10) (e : f' M.length = nI k) (e' : ∀ j, j ≠ M.length → f' j = f j) : lr_R f' (M ++ [k]) := by
  refine ⟨by rw [List.length_append]; exact h10, fun j hj => ?_, fun i hi => ?_⟩
  · rcases List.mem_append.mp hj with z | z
    · exact h.2.1 j z
    · rw [List.mem_singleton.mp z]
      exact hk
  · by_cases q : i = M.length
    · rw [q, e, List.getElem?_append_right (Nat.le_refl _), Nat.sub_self]
      rfl
    · rw [e' i q, h.2.2 i hi]
      by_cases w : i < M.length
      · rw [List.getElem?_append_left w]
      · rw [List.getElem?_eq_none (by omega), List.getElem?_eq_none (by rw [List.length_append]; show _ + 1 ≤ _; omega)]
/-- a list of keys that wants one is short -/
theorem Kl_short {M : List Nat} (hn : M.Nodup) (h10 : ∀ j ∈ M, j < 10) {k : Nat} (hk : k < 10) (hm : k ∉ M) : M.length < 10 := by
  have h1 : Kl (fun j => if 97 ≤ j ∧ (j - 97) ∈ k :: M then 1 else 0) (k :: M) := by
    refine ⟨List.nodup_cons.mpr ⟨hm, hn⟩, fun j => ?_⟩
    have e : 97 + j - 97 = j := by omega
    constructor
    · intro z
      refine ⟨?_, ?_⟩
      · rcases List.mem_cons.mp z with z | z
        · rw [z]; exact hk
        · exact h10 j z
      · show 0 < if 97 ≤ 97 + j ∧ 97 + j - 97 ∈ k :: M then 1 else 0
        rw [if_pos ⟨by omega, by rw [e]; exact z⟩]
        decide
    · intro z
      by_cases w : j ∈ k :: M
      · exact w
      · have : 0 < if 97 ≤ 97 + j ∧ 97 + j - 97 ∈ k :: M then 1 else 0 := z.2
        rw [if_neg (fun q => w (by rw [← e]; exact q.2))] at this
        exact absurd this (Nat.lt_irrefl 0)
  have h2 := Kl_len h1
  rw [List.length_cons] at h2
  have h3 := kno_le (fun j => if 97 ≤ j ∧ (j - 97) ∈ k :: M then 1 else 0)
  omega
theorem wo_not {M : List Nat} {k : Nat} : k ∉ wo M k := fun z => (mem_wo.mp z).2 rfl
theorem l_hit (h : Ls σ g Mq Ml) (hKn : Kn g) {k : Nat} (hk : k < 10) (w : 0 < g (97 + k)) : ∃ σ' Ml', F_L_look σ (nI k) = some (nI 1, σ') ∧ Ls σ' (lkH g k) Mq Ml' := by
  obtain ⟨τ, a1, a2⟩ := l_out h.2.2.2.1 hk
  have hS := l_hasS h hk
  obtain ⟨h1, h2, k1, k2, k3, k4, k5⟩ := h
  have nd := pw_nodup (t := fun a => g (107 + a)) k4.2.2
  have sh : (wo Ml k).length < 10 := Kl_short (List.Pairwise.filter _ nd) (fun j hj => k2.2.1 j (mem_wo.mp hj).1) hk wo_not
  have m1 : F_L_many (lw_f1 (lm_ua σ 4 (τ 0) 4)) = some (nI (wo Ml k).length) := by rw [ua_same]; exact l_many a2
  unfold F_L_look
  rw [hS, if_pos w, lm_bd_some, lm_br, if_neg (by decide), a1, lm_bd_some, lm_lt_eq, m1, lm_bd_some, ev_gi (by omega) (by omega), lm_lt_eq, ev_gi (by omega) (by omega), ev_gi (by omega) (by omega), lm_lt_eq, lm_lt_eq, ev_cl (by omega), ev_cl (by omega)]
  have c5 : lm_u (lm_ua σ 4 (τ 0)) 4 (wo Ml k).length (nI k) 5 k = nI (g (97 + k)) := by
    rw [lu_c _ _ _ (by omega), ua_c _ _ (by omega)]
    exact k3 k hk w
  have c9 : lm_u (lm_u (lm_ua σ 4 (τ 0)) 4 (wo Ml k).length (nI k)) 5 k (nI (g (97 + k) + 1)) 0 9 = nI (g 9) := by
    rw [lu_c _ _ _ (by omega), lu_c _ _ _ (by omega), ua_c _ _ (by omega)]
    exact h1 9 (by omega)
  rw [c5, nI_1, c9, nI_1]
  refine ⟨_, wo Ml k ++ [k], rfl, ?_⟩
  have gl : ∀ j, j ≠ 9 → j ≠ 107 + k → j ≠ 97 + k → j ≠ 16 → lkH g k j = g j := fun j a b c d => by
    unfold lkH
    rw [un_ne _ _ a, un_ne _ _ b, un_ne _ _ c, un_ne _ _ d]
  have s0 : ∀ c, c ≠ 0 → c ≠ 5 → c ≠ 4 → lm_u (lm_u (lm_u (lm_ua σ 4 (τ 0)) 4 (wo Ml k).length (nI k)) 5 k (nI (g (97 + k) + 1))) 0 9 (nI (g 9 + 1)) c = σ c := fun c a b d => by
    rw [lu_c _ _ _ a, lu_c _ _ _ b, lu_c _ _ _ d, ua_c _ _ d]
  refine ⟨fun j hj => ?_, fun j hj => ?_, ?_, ?_, fun j hj hg => ?_, ⟨fun j => ?_, ?_, ?_⟩, fun j => ?_⟩
  · by_cases q : j = 9
    · rw [q, lu_same]
      unfold lkH
      rw [un_same]
    · rw [lu_ne _ _ q, lu_c _ _ _ (by omega), lu_c _ _ _ (by omega), ua_c _ _ (by omega), gl j q (by omega) (by omega) (by omega)]
      exact h1 j hj
  · rw [s0 1 (by omega) (by omega) (by omega), s0 2 (by omega) (by omega) (by omega), gl _ (by omega) (by omega) (by omega) (by omega), gl _ (by omega) (by omega) (by omega) (by omega)]
    exact h2 j hj
  · rw [s0 3 (by omega) (by omega) (by omega)]
    exact k1
  · refine lr_app a2 sh hk ?_ (fun j hj => ?_)
    · rw [lu_c _ _ _ (by omega), lu_c _ _ _ (by omega), lu_same]
    · rw [lu_c _ _ _ (by omega), lu_c _ _ _ (by omega), lu_ne _ _ hj, ua_same]
  · rw [lu_c _ _ _ (by omega)]
    by_cases q : j = k
    · rw [q, lu_same]
      unfold lkH
      rw [un_ne _ _ (by omega), un_ne _ _ (by omega), un_same]
    · rw [gl _ (by omega) (by omega) (by omega) (by omega)] at hg ⊢
      rw [lu_ne _ _ q, lu_c _ _ _ (by omega), ua_c _ _ (by omega)]
      exact k3 j hj hg
  · rw [k4.1 j, List.mem_append, mem_wo, List.mem_singleton]
    constructor
    · intro z
      by_cases q : j = k
      · exact Or.inr q
      · exact Or.inl ⟨z, q⟩
    · intro z
      rcases z with z | z
      · exact z.1
      · rw [z]
        exact (k5 k).mpr ⟨hk, w⟩
  · refine List.Pairwise.imp_of_mem ?_ k4.2.1
    intro a b ha hb hab
    have := k1.2.1 a ha
    have := k1.2.1 b hb
    rw [gl _ (by omega) (by omega) (by omega) (by omega), gl _ (by omega) (by omega) (by omega) (by omega)]
    exact hab
  · refine List.pairwise_append.mpr ⟨?_, List.pairwise_singleton _ _, fun a ha b hb => ?_⟩
    · refine List.Pairwise.imp_of_mem ?_ (List.Pairwise.filter _ k4.2.2)
      intro a b ha hb hab
      obtain ⟨ha1, ha2⟩ := mem_wo.mp ha
      obtain ⟨hb1, hb2⟩ := mem_wo.mp hb
      have := k2.2.1 a ha1
      have := k2.2.1 b hb1
      rw [gl _ (by omega) (by omega) (by omega) (by omega), gl _ (by omega) (by omega) (by omega) (by omega)]
      exact hab
    · obtain ⟨ha1, ha2⟩ := mem_wo.mp ha
      have a10 := k2.2.1 a ha1
      have := ((hKn a a10).2 ((k5 a).mp ha1).2).1
      rw [List.mem_singleton.mp hb, gl _ (by omega) (by omega) (by omega) (by omega)]
      unfold lkH
      rw [un_ne _ _ (by omega), un_same]
      omega
  · rw [List.mem_append, mem_wo, List.mem_singleton, k5 j]
    by_cases q : j = k
    · rw [q]
      constructor
      · intro _
        refine ⟨hk, ?_⟩
        unfold lkH
        rw [un_ne _ _ (by omega), un_ne _ _ (by omega), un_same]
        omega
      · intro _
        exact Or.inr rfl
    · constructor
      · intro z
        rcases z with z | z
        · refine ⟨z.1.1, ?_⟩
          rw [gl _ (by omega) (by omega) (by omega) (by omega)]
          exact z.1.2
        · exact absurd z q
      · intro z
        have z1 := z.1
        rw [gl _ (by omega) (by omega) (by omega) (by omega)] at z
        exact Or.inl ⟨z, q⟩
theorem Ls_M (h : Ls σ g Mq Ml) : Ls (lm_u σ 0 10 (nI (g 10 + 1))) (lkM g) Mq Ml := by
  refine Ls_congr (Ls_u h (i := 10) (by omega) (g 10 + 1)) (fun j hj h16 => ?_)
  unfold lkM
  by_cases q : j = 10
  · rw [q, un_same, un_same]
  · rw [un_ne _ _ q, un_ne _ _ q, un_ne _ _ h16]
/-- a key comes last -/
theorem Ls_T (h : Ls σ (lkM g) Mq Ml) (hKn : Kn g) {k : Nat} (hk : k < 10) (w : ¬ 0 < g (97 + k)) (l1 : Mq.length < 10) (l2 : Ml.length < 10) : Ls (lm_u (lm_u (lm_u σ 3 Mq.length (nI k)) 4 Ml.length (nI k)) 5 k (nI 1)) (lkT g k) (Mq ++ [k]) (Ml ++ [k]) := by
  obtain ⟨h1, h2, k1, k2, k3, k4, k5⟩ := h
  have gl : ∀ j, j ≠ 117 + k → j ≠ 107 + k → j ≠ 97 + k → lkT g k j = lkM g j := fun j a b c => by
    unfold lkT
    rw [un_ne _ _ a, un_ne _ _ b, un_ne _ _ c]
  have gm : ∀ j, j ≠ 10 → j ≠ 16 → lkM g j = g j := fun j a b => by
    unfold lkM
    rw [un_ne _ _ a, un_ne _ _ b]
  have nm : ∀ {a}, a ∈ Ml → a ≠ k := fun {a} ha e => w (by
    have := ((k5 a).mp ha).2
    rw [e, gm _ (by omega) (by omega)] at this
    exact this)
  have bd : ∀ {a}, a ∈ Ml → a < 10 ∧ g (107 + a) ≤ g 16 ∧ g (117 + a) ≤ g 16 := fun {a} ha => by
    obtain ⟨q1, q2⟩ := (k5 a).mp ha
    rw [gm _ (by omega) (by omega)] at q2
    exact ⟨q1, (hKn a q1).2 q2⟩
  refine ⟨fun j hj => ?_, fun j hj => ?_, ?_, ?_, fun j hj hg => ?_, ⟨fun j => ?_, ?_, ?_⟩, fun j => ?_⟩
  · rw [lu_c _ _ _ (by omega), lu_c _ _ _ (by omega), lu_c _ _ _ (by omega), gl _ (by omega) (by omega) (by omega)]
    exact h1 j hj
  · rw [lu_c _ _ _ (by omega), lu_c _ _ _ (by omega), lu_c _ _ _ (by omega), lu_c _ _ _ (by omega), lu_c _ _ _ (by omega), lu_c _ _ _ (by omega), gl _ (by omega) (by omega) (by omega), gl _ (by omega) (by omega) (by omega)]
    exact h2 j hj
  · refine lr_app k1 l1 hk ?_ (fun j hj => ?_)
    · rw [lu_c _ _ _ (by omega), lu_c _ _ _ (by omega), lu_same]
    · rw [lu_c _ _ _ (by omega), lu_c _ _ _ (by omega), lu_ne _ _ hj]
  · refine lr_app k2 l2 hk ?_ (fun j hj => ?_)
    · rw [lu_c _ _ _ (by omega), lu_same]
    · rw [lu_c _ _ _ (by omega), lu_ne _ _ hj, lu_c _ _ _ (by omega)]
  · by_cases q : j = k
    · rw [q, lu_same]
      unfold lkT
      rw [un_ne _ _ (by omega), un_ne _ _ (by omega), un_same]
    · rw [gl _ (by omega) (by omega) (by omega)] at hg ⊢
      rw [lu_ne _ _ q, lu_c _ _ _ (by omega), lu_c _ _ _ (by omega)]
      exact k3 j hj hg
  · rw [List.mem_append, List.mem_append, k4.1 j]
  · refine List.pairwise_append.mpr ⟨?_, List.pairwise_singleton _ _, fun a ha b hb => ?_⟩
    · refine List.Pairwise.imp_of_mem ?_ k4.2.1
      intro a b ha hb hab
      have := nm ((k4.1 a).mp ha)
      have := nm ((k4.1 b).mp hb)
      have := (bd ((k4.1 a).mp ha)).1
      have := (bd ((k4.1 b).mp hb)).1
      rw [gl _ (by omega) (by omega) (by omega), gl _ (by omega) (by omega) (by omega)]
      exact hab
    · have n1 := nm ((k4.1 a).mp ha)
      obtain ⟨q1, q2, q3⟩ := bd ((k4.1 a).mp ha)
      rw [List.mem_singleton.mp hb, gl _ (by omega) (by omega) (by omega), gm _ (by omega) (by omega)]
      unfold lkT
      rw [un_same]
      omega
  · refine List.pairwise_append.mpr ⟨?_, List.pairwise_singleton _ _, fun a ha b hb => ?_⟩
    · refine List.Pairwise.imp_of_mem ?_ k4.2.2
      intro a b ha hb hab
      have := nm ha
      have := nm hb
      have := (bd ha).1
      have := (bd hb).1
      rw [gl _ (by omega) (by omega) (by omega), gl _ (by omega) (by omega) (by omega)]
      exact hab
    · have n1 := nm ha
      obtain ⟨q1, q2, q3⟩ := bd ha
      rw [List.mem_singleton.mp hb, gl _ (by omega) (by omega) (by omega), gm _ (by omega) (by omega)]
      unfold lkT
      rw [un_ne _ _ (by omega), un_same]
      omega
  · rw [List.mem_append, List.mem_singleton, k5 j]
    by_cases q : j = k
    · rw [q]
      constructor
      · intro _
        refine ⟨hk, ?_⟩
        unfold lkT
        rw [un_ne _ _ (by omega), un_ne _ _ (by omega), un_same]
        omega
      · intro _
        exact Or.inr rfl
    · constructor
      · intro z
        rcases z with z | z
        · refine ⟨z.1, ?_⟩
          have z1 := z.1
          rw [gl _ (by omega) (by omega) (by omega)]
          exact z.2
        · exact absurd z q
      · intro z
        have z1 := z.1
        rw [gl _ (by omega) (by omega) (by omega)] at z
        exact Or.inl z
theorem l_look (h : Ls σ g Mq Ml) {t c : Nat} (hI : In t c g) {k : Nat} (hk : k < 10) : ∃ σ' Mq' Ml', F_L_look σ (nI k) = some (nI (lk g k).2, σ') ∧ Ls σ' (lk g k).1 Mq' Ml' := by
  obtain ⟨hR, hO, hKn, hs, h8, h16, ht, hcc⟩ := id hI
  have h5 := hR.1
  unfold lk
  by_cases w : 0 < g (97 + k)
  · obtain ⟨σ', Ml', e1, e2⟩ := l_hit h hKn hk w
    rw [if_pos w]
    exact ⟨σ', Mq, Ml', e1, e2⟩
  · rw [if_neg w]
    have hM := Ls_M h
    have hT := lkM_Teq (g := g) h5
    have hw := l_weight0 hM.1 hM.2.1 (hT.rin hR) hk
    rw [hT.cnt] at hw
    have e0 : lkM g 0 = g 0 := by unfold lkM; rw [un_ne _ _ (by omega), un_ne _ _ (by omega)]
    have e5 : lkM g 5 = g 5 := by unfold lkM; rw [un_ne _ _ (by omega), un_ne _ _ (by omega)]
    have e14 : lkM g 14 = g 14 := by unfold lkM; rw [un_ne _ _ (by omega), un_ne _ _ (by omega)]
    have c0 : lm_u σ 0 10 (nI (g 10 + 1)) 0 0 = nI (g 0) := by rw [hM.1 0 (by omega), e0]
    have hc := cnt_le g k
    unfold F_L_look
    rw [l_hasS h hk, if_neg w, lm_bd_some, lm_br, if_pos (by decide), h.1 10 (by omega), nI_1, lm_lt_eq, hw, lm_bd_some, c0, lm_br]
    by_cases b : 2 + cnt g k ≤ g 0
    · rw [if_pos b, if_pos (nI_le b (by omega))]
      have n2 : k ∉ Ml := fun z => w ((h.2.2.2.2.2.2 k).mp z).2
      have n1 : k ∉ Mq := fun z => n2 ((h.2.2.2.2.2.1.1 k).mp z)
      have s2 : Ml.length < 10 := Kl_short (Lk_KlL h.2.2).1 h.2.2.2.1.2.1 hk n2
      have s1 : Mq.length < 10 := Kl_short (Lk_KlQ h.2.2).1 h.2.2.1.2.1 hk n1
      have hT2 := Ls_T hM hKn hk w s1 s2
      have m1 : F_L_many (lw_f1 (lm_u σ 0 10 (nI (g 10 + 1)) 3)) = some (nI Mq.length) := l_many hM.2.2.1
      have m2 : F_L_many (lw_f1 (lm_u (lm_u σ 0 10 (nI (g 10 + 1))) 3 Mq.length (nI k) 4)) = some (nI Ml.length) := by
        rw [lu_c _ _ _ (by omega)]
        exact l_many hM.2.2.2.1
      rw [m1, lm_bd_some, ev_gi (by omega) (by omega), lm_lt_eq, ev_cl (by omega), m2, lm_bd_some, ev_gi (by omega) (by omega), lm_lt_eq, ev_gi (by omega) (by omega), lm_lt_eq, ev_cl (by omega), ev_cl (by omega)]
      obtain ⟨σ', Mq', Ml', f1, f2⟩ := l_room (sp := k) (spi := nI k) (Or.inl ⟨hk, rfl⟩) hT2 (lkT_Kc hKn hs.2.1 (by omega) hk) ((lkT_Teq h5 hk).rin hR) (by
        unfold lkT
        rw [un_ne _ _ (by omega), un_ne _ _ (by omega), un_ne _ _ (by omega), e0]
        exact hs.1)
      have f1' : F_L_room (lm_u (lm_u (lm_u (lm_u σ 0 10 (nI (g 10 + 1))) 3 Mq.length (nI k)) 4 Ml.length (nI k)) 5 k 1) (nI k) = some (nI (mr (lkT g k) k).2, σ') := f1
      have ml := mr_le (lkT g k) k
      have u5 : σ' 0 5 = nI (g 5) := by
        rw [f2.1 5 (by omega), mr_other (by omega) (by omega)]
        unfold lkT
        rw [un_ne _ _ (by omega), un_ne _ _ (by omega), un_ne _ _ (by omega), e5]
      rw [f1', lm_b2_some, lm_br, if_pos (nI_pos' (by omega)), u5]
      refine ⟨σ', Mq', Ml', ?_, f2⟩
      have z : (2 : Int32) + nI (g 5) + 0 = nI (2 + g 5 + 0) := by
        rw [ev_k2, ev_add]
        exact nI_add _ 0
      rw [z]
      rfl
    · rw [if_neg b, if_neg (nI_ge (by omega) (by omega)), lm_lt_eq, hM.1 14 (by omega), nI_1, e14]
      have hH := Ls_u hM (i := 14) (by omega) (g 14 + 1)
      have u5 : lm_u (lm_u σ 0 10 (nI (g 10 + 1))) 0 14 (nI (g 14 + 1)) 0 5 = nI (g 5) := by
        rw [hH.1 5 (by omega), un_ne _ _ (by omega), e5]
      rw [u5]
      exact ⟨_, Mq, Ml, by rw [ev_k2, ev_add], hH⟩
theorem l_steps_L {t : Nat} : ∀ d n c (g : Nat → Nat) (σ : Hp) x1 x2 x3 (Mq Ml : List Nat), Ls σ g Mq Ml → In t c g → c + d ≤ 1000000 → x3 + d = x1 → x1 < 1000 → d < n → ∃ σ' Mq' Ml', F_L_steps_L6 n σ (nI x1) (nI x2) (nI x3) = some (nI (stD d g x2).2, σ') ∧ Ls σ' (un (stD d g x2).1 11 ((stD d g x2).1 11 + (stD d g x2).2)) Mq' Ml' := by
  intro d
  induction d with
  | zero =>
    intro n c g σ x1 x2 x3 Mq Ml hL hI hc hx hx1 hn
    cases n with
    | zero => omega
    | succ n =>
      rw [F_L_steps_L6, stD]
      rw [lm_br, if_pos (nI_le (by omega) (by omega)), lm_lt_eq, hL.1 11 (by omega), ev_add]
      exact ⟨_, Mq, Ml, rfl, Ls_u hL (by omega) _⟩
  | succ d ih =>
    intro n c g σ x1 x2 x3 Mq Ml hL hI hc hx hx1 hn
    cases n with
    | zero => omega
    | succ n =>
      obtain ⟨hR, hO, hKn, hs, h8, h16, ht, _⟩ := id hI
      obtain ⟨h6, h7, hr⟩ := id hO
      rw [F_L_steps_L6, stD]
      rw [lm_br, if_neg (nI_ge (by omega) (by omega)), hL.1 6 (by omega), hL.1 7 (by omega), lm_br]
      by_cases q : g 7 < g 6
      · obtain ⟨hk, hv⟩ := hr (g 7) q
        rw [if_neg (nI_ge q (by omega)), if_pos q]
        have e2 : (2 : Int32) * nI (g 7) = nI (2 * g 7) := by rw [ev_k2, ev_mul]
        rw [e2, ev_gi (by omega) (by omega), ev_cl (by omega), lm_lt_eq, (hL.2.1 _ (by omega)).2]
        obtain ⟨σ1, Mq1, Ml1, l1, l2⟩ := l_look hL hI hk
        have hS := lk_Sm g (g (57 + 2 * g 7))
        have e7 : σ1 0 7 = nI (g 7) := by rw [l2.1 7 (by omega), hS 7 (by omega) (by omega)]
        have e8 : σ1 0 8 = nI (g 8) := by rw [l2.1 8 (by omega), hS 8 (by omega) (by omega)]
        have e58 : σ1 2 (2 * g 7 + 1) = nI (g (58 + 2 * g 7)) := by
          rw [(l2.2.1 _ (by omega)).2, hS _ (by omega) (by omega)]
          congr 2
          omega
        rw [l1, lm_b2_some, e7, e2, nI_1, ev_gi (by omega) (by omega), ev_cl (by omega), l_weight1 l2.1 l2.2.1 (hS.rin hR) hk, (hS.teq hR.1).sm, lm_bd_some, lm_lt_eq, e8, e58, ev_mul, ev_add]
        have hM2 := Ls_u l2 (i := 8) (by omega) (g 8 + g (58 + 2 * g 7) * sm g (g (57 + 2 * g 7)))
        have e7' : (lm_u σ1 0 8 (nI (g 8 + g (58 + 2 * g 7) * sm g (g (57 + 2 * g 7))))) 0 7 = nI (g 7) := by rw [lu_ne _ _ (by omega), e7]
        rw [lm_lt_eq, e7', nI_1, ev_add, nI_1]
        have hM3 := Ls_u hM2 (i := 7) (by omega) (g 7 + 1)
        exact ih n (c + 1) (s1 g).1 _ x1 (x2 + (s1 g).2) (x3 + 1) Mq1 Ml1 hM3 (s1_In hI (by omega) q) (by omega) (by omega) hx1 (by omega)
      · rw [if_pos (nI_le (by omega) (by omega)), if_neg q, lm_lt_eq, hL.1 11 (by omega), ev_add]
        exact ⟨_, Mq, Ml, rfl, Ls_u hL (by omega) _⟩
theorem l_steps (hL : Ls σ g Mq Ml) {t c : Nat} (hI : In t c g) {n : Nat} (hn : n ≤ 20) (hc : c + n ≤ 1000000) : ∃ σ' Mq' Ml', F_L_steps σ (nI n) = some (nI (stp g n).2, σ') ∧ Ls σ' (stp g n).1 Mq' Ml' := by
  unfold F_L_steps
  exact l_steps_L n 1000 c g σ n 0 0 Mq Ml hL hI hc (by omega) (by omega) (by omega)
end LL1
