/-! the class: looking up, steps -/
section CK
variable {g : Nat → Nat}
theorem Cm_hit {σ : Hp} {q : Nat} {l f : Nat → Nat} (hK : Kn g) (c1 : σ 11 3 = nI q) (c2 : q ≤ g 16) (c3 : ∀ k, k < 10 → σ 12 k = nI (g (97 + k)) ∧ (0 < g (97 + k) → σ 13 k = nI (l k) ∧ σ 14 k = nI (f k) ∧ l k ≤ q ∧ f k ≤ q)) (c4 : ∀ j k, j < 10 → k < 10 → 0 < g (97 + j) → 0 < g (97 + k) → (l j < l k ↔ g (107 + j) < g (107 + k)) ∧ (f j < f k ↔ g (117 + j) < g (117 + k))) {k : Nat} (hk : k < 10) (kn : 0 < g (97 + k)) : Cm (lm_sb σ 11 4 (lm_u (lm_u (lm_u (lm_sh 11 σ) 0 3 (nI (q + 1))) 1 k (nI (g (97 + k) + 1))) 2 k (nI (q + 1)))) (lkH g k) := by
  have e97 : ∀ i, i < 10 → lkH g k (97 + i) = if i = k then g (97 + k) + 1 else g (97 + i) := fun i hi => by
    unfold lkH
    rw [un_ne _ _ (by omega), un_ne _ _ (by omega)]
    by_cases e : i = k
    · rw [if_pos e, e, un_same]
    · rw [if_neg e, un_ne _ _ (by omega), un_ne _ _ (by omega)]
  have e107 : ∀ i, i < 10 → lkH g k (107 + i) = if i = k then g 16 + 1 else g (107 + i) := fun i hi => by
    unfold lkH
    rw [un_ne _ _ (by omega)]
    by_cases e : i = k
    · rw [if_pos e, e, un_same]
    · rw [if_neg e, un_ne _ _ (by omega), un_ne _ _ (by omega), un_ne _ _ (by omega)]
  have e117 : ∀ i, i < 10 → lkH g k (117 + i) = g (117 + i) := fun i hi => by
    unfold lkH
    rw [un_ne _ _ (by omega), un_ne _ _ (by omega), un_ne _ _ (by omega), un_ne _ _ (by omega)]
  refine ⟨q + 1, fun i => if i = k then q + 1 else l i, f, ?_, ?_, fun i hi => ?_, fun i j hi hj ki kj => ?_⟩
  · show (lm_u (lm_u (lm_u (lm_sh 11 σ) 0 3 (nI (q + 1))) 1 k (nI (g (97 + k) + 1))) 2 k (nI (q + 1))) 0 3 = _
    rw [lu_c _ _ _ (by omega), lu_c _ _ _ (by omega), lu_same]
  · show q + 1 ≤ lkH g k 16
    unfold lkH
    rw [un_ne _ _ (by omega), un_ne _ _ (by omega), un_ne _ _ (by omega), un_same]
    omega
  · rw [e97 i hi]
    obtain ⟨d1, d2⟩ := c3 i hi
    refine ⟨?_, fun q2 => ⟨?_, ?_, ?_, ?_⟩⟩
    · show (lm_u (lm_u (lm_u (lm_sh 11 σ) 0 3 (nI (q + 1))) 1 k (nI (g (97 + k) + 1))) 2 k (nI (q + 1))) 1 i = _
      rw [lu_c _ _ _ (by omega)]
      by_cases e : i = k
      · rw [if_pos e, e, lu_same]
      · rw [if_neg e, lu_ne _ _ e, lu_c _ _ _ (by omega)]
        exact d1
    · show (lm_u (lm_u (lm_u (lm_sh 11 σ) 0 3 (nI (q + 1))) 1 k (nI (g (97 + k) + 1))) 2 k (nI (q + 1))) 2 i = _
      try dsimp only
      by_cases e : i = k
      · rw [if_pos e, e, lu_same]
      · rw [if_neg e] at q2
        rw [if_neg e, lu_ne _ _ e, lu_c _ _ _ (by omega), lu_c _ _ _ (by omega)]
        exact (d2 q2).1
    · show (lm_u (lm_u (lm_u (lm_sh 11 σ) 0 3 (nI (q + 1))) 1 k (nI (g (97 + k) + 1))) 2 k (nI (q + 1))) 3 i = _
      try dsimp only
      rw [lu_c _ _ _ (by omega), lu_c _ _ _ (by omega), lu_c _ _ _ (by omega)]
      by_cases e : i = k
      · subst e; exact (d2 kn).2.1
      · rw [if_neg e] at q2
        exact (d2 q2).2.1
    · show (if i = k then q + 1 else l i) ≤ q + 1
      by_cases e : i = k
      · rw [if_pos e]; omega
      · rw [if_neg e] at q2
        rw [if_neg e]
        have := (d2 q2).2.2.1
        omega
    · by_cases e : i = k
      · subst e
        have := (d2 kn).2.2.2
        omega
      · rw [if_neg e] at q2
        have := (d2 q2).2.2.2
        omega
  · rw [e97 i hi] at ki
    rw [e97 j hj] at kj
    have ki' : 0 < g (97 + i) := by
      by_cases e : i = k
      · rw [e]; exact kn
      · rw [if_neg e] at ki; exact ki
    have kj' : 0 < g (97 + j) := by
      by_cases e : j = k
      · rw [e]; exact kn
      · rw [if_neg e] at kj; exact kj
    have hi2 := (c3 i hi).2 ki'
    have hj2 := (c3 j hj).2 kj'
    have gi := (hK i hi).2 ki'
    have gj := (hK j hj).2 kj'
    have o := c4 i j hi hj ki' kj'
    rw [e107 i hi, e107 j hj, e117 i hi, e117 j hj]
    refine ⟨?_, o.2⟩
    show (if i = k then q + 1 else l i) < (if j = k then q + 1 else l j) ↔ _
    by_cases e : i = k
    · by_cases e2 : j = k
      · rw [if_pos e, if_pos e2, if_pos e, if_pos e2]
        omega
      · rw [if_pos e, if_neg e2, if_pos e, if_neg e2]
        omega
    · by_cases e2 : j = k
      · rw [if_neg e, if_pos e2, if_neg e, if_pos e2]
        omega
      · rw [if_neg e, if_neg e2, if_neg e, if_neg e2]
        exact o.1
theorem Cm_take {σ : Hp} {q : Nat} {l f : Nat → Nat} (hK : Kn g) (c1 : σ 11 3 = nI q) (c2 : q ≤ g 16) (c3 : ∀ k, k < 10 → σ 12 k = nI (g (97 + k)) ∧ (0 < g (97 + k) → σ 13 k = nI (l k) ∧ σ 14 k = nI (f k) ∧ l k ≤ q ∧ f k ≤ q)) (c4 : ∀ j k, j < 10 → k < 10 → 0 < g (97 + j) → 0 < g (97 + k) → (l j < l k ↔ g (107 + j) < g (107 + k)) ∧ (f j < f k ↔ g (117 + j) < g (117 + k))) {k : Nat} (hk : k < 10) : Cm (lm_sb σ 11 4 (lm_u (lm_u (lm_u (lm_u (lm_sh 11 σ) 0 3 (nI (q + 1))) 1 k (nI 1)) 3 k (nI (q + 1))) 2 k (nI (q + 1)))) (lkT g k) := by
  have e97 : ∀ i, i < 10 → lkT g k (97 + i) = if i = k then 1 else g (97 + i) := fun i hi => by
    unfold lkT lkM
    rw [un_ne _ _ (by omega), un_ne _ _ (by omega)]
    by_cases e : i = k
    · rw [if_pos e, e, un_same]
    · rw [if_neg e, un_ne _ _ (by omega), un_ne _ _ (by omega), un_ne _ _ (by omega)]
  have e107 : ∀ i, i < 10 → lkT g k (107 + i) = if i = k then g 16 + 1 else g (107 + i) := fun i hi => by
    unfold lkT lkM
    rw [un_ne _ _ (by omega)]
    by_cases e : i = k
    · rw [if_pos e, e, un_same]
    · rw [if_neg e, un_ne _ _ (by omega), un_ne _ _ (by omega), un_ne _ _ (by omega), un_ne _ _ (by omega)]
  have e117 : ∀ i, i < 10 → lkT g k (117 + i) = if i = k then g 16 + 1 else g (117 + i) := fun i hi => by
    unfold lkT lkM
    by_cases e : i = k
    · rw [if_pos e, e, un_same]
    · rw [if_neg e, un_ne _ _ (by omega), un_ne _ _ (by omega), un_ne _ _ (by omega), un_ne _ _ (by omega), un_ne _ _ (by omega)]
  refine ⟨q + 1, fun i => if i = k then q + 1 else l i, fun i => if i = k then q + 1 else f i, ?_, ?_, fun i hi => ?_, fun i j hi hj ki kj => ?_⟩
  · show (lm_u (lm_u (lm_u (lm_u (lm_sh 11 σ) 0 3 (nI (q + 1))) 1 k (nI 1)) 3 k (nI (q + 1))) 2 k (nI (q + 1))) 0 3 = _
    rw [lu_c _ _ _ (by omega), lu_c _ _ _ (by omega), lu_c _ _ _ (by omega), lu_same]
  · show q + 1 ≤ lkT g k 16
    unfold lkT lkM
    rw [un_ne _ _ (by omega), un_ne _ _ (by omega), un_ne _ _ (by omega), un_ne _ _ (by omega), un_same]
    omega
  · rw [e97 i hi]
    obtain ⟨d1, d2⟩ := c3 i hi
    refine ⟨?_, fun q2 => ⟨?_, ?_, ?_, ?_⟩⟩
    · show (lm_u (lm_u (lm_u (lm_u (lm_sh 11 σ) 0 3 (nI (q + 1))) 1 k (nI 1)) 3 k (nI (q + 1))) 2 k (nI (q + 1))) 1 i = _
      rw [lu_c _ _ _ (by omega), lu_c _ _ _ (by omega)]
      by_cases e : i = k
      · rw [if_pos e, e, lu_same]
      · rw [if_neg e, lu_ne _ _ e, lu_c _ _ _ (by omega)]
        exact d1
    · show (lm_u (lm_u (lm_u (lm_u (lm_sh 11 σ) 0 3 (nI (q + 1))) 1 k (nI 1)) 3 k (nI (q + 1))) 2 k (nI (q + 1))) 2 i = _
      try dsimp only
      by_cases e : i = k
      · rw [if_pos e, e, lu_same]
      · rw [if_neg e] at q2
        rw [if_neg e, lu_ne _ _ e, lu_c _ _ _ (by omega), lu_c _ _ _ (by omega), lu_c _ _ _ (by omega)]
        exact (d2 q2).1
    · show (lm_u (lm_u (lm_u (lm_u (lm_sh 11 σ) 0 3 (nI (q + 1))) 1 k (nI 1)) 3 k (nI (q + 1))) 2 k (nI (q + 1))) 3 i = _
      try dsimp only
      rw [lu_c _ _ _ (by omega)]
      by_cases e : i = k
      · rw [if_pos e, e, lu_same]
      · rw [if_neg e] at q2
        rw [if_neg e, lu_ne _ _ e, lu_c _ _ _ (by omega), lu_c _ _ _ (by omega)]
        exact (d2 q2).2.1
    · show (if i = k then q + 1 else l i) ≤ q + 1
      by_cases e : i = k
      · rw [if_pos e]; omega
      · rw [if_neg e] at q2
        rw [if_neg e]
        have := (d2 q2).2.2.1
        omega
    · show (if i = k then q + 1 else f i) ≤ q + 1
      by_cases e : i = k
      · rw [if_pos e]; omega
      · rw [if_neg e] at q2
        rw [if_neg e]
        have := (d2 q2).2.2.2
        omega
  · rw [e97 i hi] at ki
    rw [e97 j hj] at kj
    rw [e107 i hi, e107 j hj, e117 i hi, e117 j hj]
    show ((if i = k then q + 1 else l i) < (if j = k then q + 1 else l j) ↔ _) ∧ ((if i = k then q + 1 else f i) < (if j = k then q + 1 else f j) ↔ _)
    by_cases e : i = k
    · by_cases e2 : j = k
      · simp only [if_pos e, if_pos e2]
        omega
      · rw [if_neg e2] at kj
        have hj2 := (c3 j hj).2 kj
        have gj := (hK j hj).2 kj
        simp only [if_pos e, if_neg e2]
        omega
    · rw [if_neg e] at ki
      have hi2 := (c3 i hi).2 ki
      have gi := (hK i hi).2 ki
      by_cases e2 : j = k
      · simp only [if_neg e, if_pos e2]
        omega
      · rw [if_neg e2] at kj
        simp only [if_neg e, if_neg e2]
        exact c4 i j hi hj ki kj
theorem Cm_cells {σ σ' : Hp} (h : Cm σ g) (e : ∀ c, 11 ≤ c ∧ c ≤ 14 → σ' c = σ c) : Cm σ' g := by
  obtain ⟨q, l, f, c1, c2, c3, c4⟩ := h
  refine ⟨q, l, f, by rw [e 11 (by omega)]; exact c1, c2, fun k hk => ?_, c4⟩
  rw [e 12 (by omega), e 13 (by omega), e 14 (by omega)]
  exact c3 k hk
theorem c_lookUp {σ : Hp} {x t c : Nat} (hC : Cs σ g x) (hI : In t c g) (hc1 : c < 1000000) {k : Nat} (hk : k < 10) : ∃ σ', F_X4_lookUp σ (nI k) = some σ' ∧ Cs σ' (lk g k).1 (x + (lk g k).2) := by
  obtain ⟨hT, ha, hy, hm⟩ := hC
  obtain ⟨hR, hO, hK, ⟨h0, h1, h2⟩, h8, h16, ht, hc⟩ := hI
  have hS := lk_Sm g k
  obtain ⟨q, l, f, c1, c2, c3, c4⟩ := id hm
  obtain ⟨u1, u2⟩ := c3 k hk
  have ub := (hK k hk).1
  have hcn : cnt g k ≤ 20 := Nat.le_trans (cD_le g k _ _) hR.1
  unfold F_X4_lookUp
  rw [c_holds (τ := lm_sh 11 σ) hk (by omega) u1, lm_bd_some, lm_br]
  by_cases kn : 0 < g (97 + k)
  · rw [if_pos kn, if_neg (by decide), lm_lt_eq, lm_lt_eq]
    have y0 : σ 16 0 + 1 = nI (g 9 + 1) := by rw [hy 0 (by omega), if_neg (by omega), nI_1]
    rw [y0]
    have y2 : (lm_u σ 16 0 (nI (g 9 + 1))) 16 2 + 1 = nI (x + 1) := by rw [lu_ne _ _ (by omega), hy 2 (by omega), if_pos rfl, nI_1]
    rw [y2]
    have hcell : ∀ c, c ≠ 16 → (lm_u (lm_u σ 16 0 (nI (g 9 + 1))) 16 2 (nI (x + 1))) c = σ c := fun c hc => by rw [lu_c _ _ _ hc, lu_c _ _ _ hc]
    generalize hσ : lm_u (lm_u σ 16 0 (nI (g 9 + 1))) 16 2 (nI (x + 1)) = σ1 at hcell
    have s11 : lm_sh 11 σ1 0 3 = nI q := by show σ1 11 3 = _; rw [hcell 11 (by omega)]; exact c1
    have s12 : lm_sh 11 σ1 1 k = nI (g (97 + k)) := by show σ1 12 k = _; rw [hcell 12 (by omega)]; exact u1
    rw [c_touch hk s11 s12, lm_bd_some, lm_lt_eq]
    have c1' : σ1 11 3 = nI q := s11
    have c3' : ∀ k, k < 10 → σ1 12 k = nI (g (97 + k)) ∧ (0 < g (97 + k) → σ1 13 k = nI (l k) ∧ σ1 14 k = nI (f k) ∧ l k ≤ q ∧ f k ≤ q) := fun k hk => by
      rw [hcell 12 (by omega), hcell 13 (by omega), hcell 14 (by omega)]
      exact c3 k hk
    have el : (lk g k) = (lkH g k, 1) := by unfold lk; rw [if_pos kn]
    rw [el] at hS ⊢
    dsimp only at hS ⊢
    have hMf : Mf σ1 (lm_sb σ1 11 4 (lm_u (lm_u (lm_u (lm_sh 11 σ1) 0 3 (nI (q + 1))) 1 k (nI (g (97 + k) + 1))) 2 k (nI (q + 1)))) := Mf.rf.sb
    refine ⟨_, rfl, Ct_Mf hT hR hO (fun c hc => by rw [hMf c (by omega), hcell c (by omega)]) hS, Ca_Mf ha hR.1 (fun c hc => by rw [hMf c (by omega), hcell c (by omega)]) hS, fun j hj => ?_, Cm_hit hK c1' c2 c3' c4 hk kn⟩
    rw [hMf 16 (by omega), ← hσ]
    show _ = nI (if j = 2 then x + 1 else lkH g k (9 + j))
    by_cases j2 : j = 2
    · rw [if_pos j2, j2, lu_same]
    · rw [if_neg j2, lu_ne _ _ j2]
      by_cases j0 : j = 0
      · subst j0
        rw [lu_same]
        unfold lkH
        rw [un_same]
      · rw [lu_ne _ _ j0, hy j hj, if_neg j2]
        unfold lkH
        rw [un_ne _ _ (by omega), un_ne _ _ (by omega), un_ne _ _ (by omega), un_ne _ _ (by omega)]
  · rw [if_neg kn, if_pos (by decide), lm_lt_eq]
    have y1 : σ 16 1 + 1 = nI (g 10 + 1) := by rw [hy 1 (by omega), if_neg (by omega), nI_1]
    rw [y1, c_size, lm_bd_some, lm_lt_eq]
    have z4 : lm_sh 4 (lm_u σ 16 1 (nI (g 10 + 1))) 0 2 = nI (g 5) := by
      show (lm_u σ 16 1 (nI (g 10 + 1))) 4 2 = _
      rw [lu_c _ _ _ (by omega)]
      exact hT.1.1
    have y2 : (lm_u σ 16 1 (nI (g 10 + 1))) 16 2 + (2 + lm_sh 4 (lm_u σ 16 1 (nI (g 10 + 1))) 0 2) = nI (x + (2 + g 5)) := by
      rw [z4, lu_ne _ _ (by omega), hy 2 (by omega), if_pos rfl, ev_k2, ev_add, ev_add]
    rw [y2]
    have hcell : ∀ c, c ≠ 16 → (lm_u (lm_u σ 16 1 (nI (g 10 + 1))) 16 2 (nI (x + (2 + g 5)))) c = σ c := fun c hc => by rw [lu_c _ _ _ hc, lu_c _ _ _ hc]
    have htal : ∀ j, j < 7 → (lm_u (lm_u σ 16 1 (nI (g 10 + 1))) 16 2 (nI (x + (2 + g 5)))) 16 j = nI (if j = 2 then x + (2 + g 5) else lkM g (9 + j)) := fun j hj => by
      by_cases j2 : j = 2
      · rw [if_pos j2, j2, lu_same]
      · rw [if_neg j2, lu_ne _ _ j2]
        by_cases j1 : j = 1
        · subst j1
          rw [lu_same]
          unfold lkM
          rw [un_same]
        · rw [lu_ne _ _ j1, hy j hj, if_neg j2]
          unfold lkM
          rw [un_ne _ _ (by omega), un_ne _ _ (by omega)]
    generalize hσ : lm_u (lm_u σ 16 1 (nI (g 10 + 1))) 16 2 (nI (x + (2 + g 5))) = σ1 at hcell htal
    have s8 : lm_sh 7 σ1 1 k = nI (cnt g k) := by show σ1 8 k = _; rw [hcell 8 (by omega)]; exact (ha k hk).1
    have s15 : σ1 15 0 = nI (g 0) := by rw [hcell 15 (by omega)]; exact hT.2.2.2 0 (by omega)
    rw [c_weight hk s8, lm_bd_some, s15, lm_br]
    by_cases w : 2 + cnt g k ≤ g 0
    · rw [if_pos (nI_le w (by omega))]
      have s11 : lm_sh 11 σ1 0 3 = nI q := by show σ1 11 3 = _; rw [hcell 11 (by omega)]; exact c1
      have c1' : σ1 11 3 = nI q := s11
      have c3' : ∀ k, k < 10 → σ1 12 k = nI (g (97 + k)) ∧ (0 < g (97 + k) → σ1 13 k = nI (l k) ∧ σ1 14 k = nI (f k) ∧ l k ≤ q ∧ f k ≤ q) := fun k hk => by
        rw [hcell 12 (by omega), hcell 13 (by omega), hcell 14 (by omega)]
        exact c3 k hk
      rw [c_take hk s11, lm_bd_some, lm_lt_eq]
      have hMf : Mf σ1 (lm_sb σ1 11 4 (lm_u (lm_u (lm_u (lm_u (lm_sh 11 σ1) 0 3 (nI (q + 1))) 1 k (nI 1)) 3 k (nI (q + 1))) 2 k (nI (q + 1)))) := Mf.rf.sb
      have hcm := Cm_take hK c1' c2 c3' c4 hk
      generalize hσ2 : lm_sb σ1 11 4 (lm_u (lm_u (lm_u (lm_u (lm_sh 11 σ1) 0 3 (nI (q + 1))) 1 k (nI 1)) 3 k (nI (q + 1))) 2 k (nI (q + 1))) = σ2 at hMf hcm
      have hST : Sm g (lkT g k) := ((((Sm.rf.un _ (by omega)).un _ (by omega)).un _ (by omega)).un _ (by omega)).un _ (by omega)
      have hKT : Kn (lkT g k) ∧ lkT g k 16 = g 16 + 1 := lkT_Kn hK hk
      have hCs2 : Cs σ2 (lkT g k) (x + (2 + g 5)) := by
        refine ⟨Ct_Mf hT hR hO (fun c hc => by rw [hMf c (by omega), hcell c (by omega)]) hST, Ca_Mf ha hR.1 (fun c hc => by rw [hMf c (by omega), hcell c (by omega)]) hST, fun j hj => ?_, hcm⟩
        rw [hMf 16 (by omega), htal j hj]
        congr 1
        split
        · rfl
        · unfold lkT
          rw [un_ne _ _ (by omega), un_ne _ _ (by omega), un_ne _ _ (by omega)]
      have e0 : lkT g k 0 = g 0 := hST 0 (by omega) (by omega)
      have e1 : lkT g k 1 = g 1 := hST 1 (by omega) (by omega)
      obtain ⟨σ', i1, i2⟩ := c_makeRoom hCs2 (hST.rin hR) (hST.rou hO) hKT.1 (by omega) (by omega) (by omega) (Or.inl ⟨hk, rfl⟩) (fun _ _ => by rw [(hST.teq hR.1).cnt, e0]; exact w)
      rw [i1, lm_b2_some]
      have el : (lk g k) = ((mr (lkT g k) k).1, 2 + g 5) := by unfold lk; rw [if_neg kn, if_pos w]
      rw [el]
      exact ⟨σ', rfl, i2⟩
    · rw [if_neg (nI_ge (by omega) (by omega)), lm_lt_eq]
      have el : (lk g k) = (un (lkM g) 14 (g 14 + 1), 2 + g 5) := by unfold lk; rw [if_neg kn, if_neg w]
      rw [el] at hS ⊢
      dsimp only at hS ⊢
      have y5 : σ1 16 5 + 1 = nI (g 14 + 1) := by
        rw [htal 5 (by omega), if_neg (by omega), nI_1]
        unfold lkM
        rw [un_ne _ _ (by omega), un_ne _ _ (by omega)]
      rw [y5]
      refine ⟨_, rfl, Ct_Mf hT hR hO (fun c hc => by rw [lu_c _ _ _ (by omega), hcell c (by omega)]) hS, Ca_Mf ha hR.1 (fun c hc => by rw [lu_c _ _ _ (by omega), hcell c (by omega)]) hS, fun j hj => ?_, ?_⟩
      · by_cases j5 : j = 5
        · subst j5
          rw [lu_same, if_neg (by omega), un_same]
        · rw [lu_ne _ _ j5, htal j hj]
          congr 1
          split
          · rfl
          · rw [un_ne _ _ (by omega)]
      · obtain ⟨q', l', f', d1, d2, d3, d4⟩ := Cm_cells (σ' := lm_u σ1 16 5 (nI (g 14 + 1))) hm (fun c hc => by rw [lu_c _ _ _ (by omega), hcell c (by omega)])
        have v : ∀ j, 97 ≤ j → un (lkM g) 14 (g 14 + 1) j = g j := fun j hj => by
          unfold lkM
          rw [un_ne _ _ (by omega), un_ne _ _ (by omega), un_ne _ _ (by omega)]
        refine ⟨q', l', f', d1, ?_, fun i hi => ?_, fun i j hi hj => ?_⟩
        · unfold lkM
          rw [un_ne _ _ (by omega), un_ne _ _ (by omega), un_same]
          omega
        · rw [v _ (by omega)]
          exact d3 i hi
        · rw [v _ (by omega), v _ (by omega), v _ (by omega), v _ (by omega), v _ (by omega), v _ (by omega)]
          exact d4 i j hi hj
theorem lk_11 (g : Nat → Nat) (k : Nat) : (lk g k).1 11 = g 11 := by
  unfold lk
  split
  · unfold lkH
    dsimp only
    rw [un_ne _ _ (by omega), un_ne _ _ (by omega), un_ne _ _ (by omega), un_ne _ _ (by omega)]
  · split
    · show (mr (lkT g k) k).1 11 = _
      rw [mr_other (by omega) (by omega)]
      unfold lkT lkM
      rw [un_ne _ _ (by omega), un_ne _ _ (by omega), un_ne _ _ (by omega), un_ne _ _ (by omega), un_ne _ _ (by omega)]
    · unfold lkM
      dsimp only
      rw [un_ne _ _ (by omega), un_ne _ _ (by omega), un_ne _ _ (by omega)]
end CK

