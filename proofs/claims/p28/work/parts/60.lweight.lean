/-! the law's weights -/
section LW9
variable {g : Nat → Nat} {σ : Hp}
def Lu (σ : Hp) (g : Nat → Nat) : Prop := ∀ j, j < 16 → σ 0 j = nI (g j)
def Li (σ : Hp) (g : Nat → Nat) : Prop := ∀ j, j < 40 → σ 1 j = nI (g (17 + j)) ∧ σ 2 j = nI (g (57 + j))
theorem l_weight_L (h1 : Lu σ g) (h2 : Li σ g) (hR : Rin g) {k : Nat} (hk : k < 10) : ∀ d n r acc, r + d = g 5 → d < n → F_L_weight_L14 n σ (nI k) (nI 0) (nI acc) (nI r) = some (nI (acc + cD g k d r)) ∧ F_L_weight_L14 n σ (nI k) (nI 1) (nI acc) (nI r) = some (nI (acc + sD g k d r)) := by
  obtain ⟨h5, h3, h4, hrow⟩ := hR
  intro d
  induction d with
  | zero =>
    intro n r acc hr hn
    cases n with
    | zero => omega
    | succ n =>
      refine ⟨?_, ?_⟩
      · rw [F_L_weight_L14, cD, lm_br, h1 5 (by omega), if_pos (nI_le (by omega) (by omega))]
        rfl
      · rw [F_L_weight_L14, sD, lm_br, h1 5 (by omega), if_pos (nI_le (by omega) (by omega))]
        rfl
  | succ d ih =>
    intro n r acc hr hn
    cases n with
    | zero => omega
    | succ n =>
      obtain ⟨r1, r2⟩ := hrow r (by omega)
      have i1 : σ 1 (2 * r) = nI (g (17 + 2 * r)) := (h2 _ (by omega)).1
      have i2 : σ 1 (2 * r + 1) = nI (g (18 + 2 * r)) := by
        rw [(h2 _ (by omega)).1]
        congr 2
        omega
      have pre : ∀ x3 : Int32, F_L_weight_L14 (n + 1) σ (nI k) x3 (nI acc) (nI r) = lm_br (¬ nI (g (17 + 2 * r)) = nI k) (F_L_weight_L14 n σ (nI k) x3 (nI acc) (nI (r + 1))) (lm_br (nI (g (18 + 2 * r)) < nI (g 3)) (F_L_weight_L14 n σ (nI k) x3 (nI acc) (nI (r + 1))) (lm_br (nI (g 4) < nI (g (18 + 2 * r))) (F_L_weight_L14 n σ (nI k) x3 (nI acc) (nI (r + 1))) (lm_br (x3 = 0) (F_L_weight_L14 n σ (nI k) x3 (nI (acc + 1)) (nI (r + 1))) (F_L_weight_L14 n σ (nI k) x3 (nI (acc + g (18 + 2 * r))) (nI (r + 1)))))) := by
        intro x3
        have z : nI acc + (0 : Int32) = nI acc := nI_add acc 0
        rw [F_L_weight_L14, lm_br, h1 5 (by omega), if_neg (nI_ge (by omega) (by omega)), z, nI_1, nI_1, ev_k2, ev_mul, nI_1, ev_gi (by omega) (by omega), lm_lt_eq, ev_gi (by omega) (by omega), ev_cl (by omega), ev_cl (by omega), i1, i2, h1 3 (by omega), h1 4 (by omega), ev_add]
      by_cases hm : mt g k r = true
      · have hm' := hm
        simp only [mt, Bool.and_eq_true, decide_eq_true_eq] at hm'
        obtain ⟨⟨m1, m2⟩, m3⟩ := hm'
        have c1 : ¬ ¬ nI (g (17 + 2 * r)) = nI k := not_not_intro (by rw [m1])
        have c2 : ¬ nI (g (18 + 2 * r)) < nI (g 3) := nI_nlt m2 (by omega)
        have c3 : ¬ nI (g 4) < nI (g (18 + 2 * r)) := nI_nlt m3 (by omega)
        refine ⟨?_, ?_⟩
        · rw [pre, cD, if_pos hm, lm_br, if_neg c1, lm_br, if_neg c2, lm_br, if_neg c3, lm_br, if_pos (by decide), (ih n (r + 1) (acc + 1) (by omega) (by omega)).1, Nat.add_assoc]
        · rw [pre, sD, if_pos hm, lm_br, if_neg c1, lm_br, if_neg c2, lm_br, if_neg c3, lm_br, if_neg (by decide), (ih n (r + 1) _ (by omega) (by omega)).2, Nat.add_assoc]
      · have a1 := (ih n (r + 1) acc (by omega) (by omega)).1
        have a2 := (ih n (r + 1) acc (by omega) (by omega)).2
        have hb : ∀ (A B C : Option Int32), lm_br (¬ nI (g (17 + 2 * r)) = nI k) A (lm_br (nI (g (18 + 2 * r)) < nI (g 3)) A (lm_br (nI (g 4) < nI (g (18 + 2 * r))) A B)) = A := by
          intro A B C
          by_cases c1 : g (17 + 2 * r) = k
          · rw [lm_br, if_neg (not_not_intro (by rw [c1])), lm_br]
            by_cases c2 : g (18 + 2 * r) < g 3
            · rw [if_pos (nI_lt c2 (by omega))]
            · rw [if_neg (nI_nlt (by omega) (by omega)), lm_br]
              by_cases c3 : g 4 < g (18 + 2 * r)
              · rw [if_pos (nI_lt c3 (by omega))]
              · exact absurd (by
                  simp only [mt, Bool.and_eq_true, decide_eq_true_eq]
                  exact ⟨⟨c1, by omega⟩, by omega⟩) hm
          · rw [lm_br, if_pos (fun z => c1 ((nI_eq (by omega) (by omega)).mp z))]
        refine ⟨?_, ?_⟩
        · rw [pre, cD, if_neg hm, hb _ _ none, a1, Nat.zero_add]
        · rw [pre, sD, if_neg hm, hb _ _ none, a2, Nat.zero_add]
theorem l_weight0 (h1 : Lu σ g) (h2 : Li σ g) (hR : Rin g) {k : Nat} (hk : k < 10) : F_L_weight σ (nI k) (0 : Int32) = some (nI (2 + cnt g k)) := by
  unfold F_L_weight
  rw [lm_br, if_pos rfl]
  exact (l_weight_L h1 h2 hR hk (g 5) 1000 0 2 (by omega) (by have := hR.1; omega)).1
theorem l_weight1 (h1 : Lu σ g) (h2 : Li σ g) (hR : Rin g) {k : Nat} (hk : k < 10) : F_L_weight σ (nI k) (1 : Int32) = some (nI (sm g k)) := by
  unfold F_L_weight
  rw [lm_br, if_neg (by decide)]
  have := (l_weight_L h1 h2 hR hk (g 5) 1000 0 0 (by omega) (by have := hR.1; omega)).2
  rw [Nat.zero_add] at this
  exact this
theorem l_weights_L (h1 : Lu σ g) (h2 : Li σ g) (hR : Rin g) {M : List Nat} (h : lr_R (σ 3) M) : ∀ d n i acc, i + d = M.length → d < n → F_L_weights_L5 n σ (nI acc) (nI i) = some (nI (acc + ((M.drop i).map (fun k => 2 + cnt g k)).sum)) := by
  have h10 := h.1
  intro d
  induction d with
  | zero =>
    intro n i acc hi hn
    cases n with
    | zero => omega
    | succ n =>
      rw [F_L_weights_L5, l_many h, lm_bd_some, lm_br, if_pos (nI_le (by omega) (by omega)), List.drop_of_length_le (by omega)]
      rfl
  | succ d ih =>
    intro n i acc hi hn
    cases n with
    | zero => omega
    | succ n =>
      have p : i < M.length := by omega
      obtain ⟨e1, e2⟩ := lr_some h p
      rw [F_L_weights_L5, l_many h, lm_bd_some, lm_br, if_neg (nI_ge (by omega) (by omega)), ev_gi (by omega) (by omega), ev_cl (by omega), e1, l_weight0 h1 h2 hR e2, lm_bd_some, ev_add, nI_1, ih n (i + 1) _ (by omega) (by omega), List.drop_eq_getElem_cons p, List.map_cons, List.sum_cons, Nat.add_assoc]
theorem pm_sum {l1 l2 : List Nat} (h : l1.Perm l2) : l1.sum = l2.sum := by
  induction h with
  | nil => rfl
  | cons x _ ih => rw [List.sum_cons, List.sum_cons, ih]
  | swap x y l => rw [List.sum_cons, List.sum_cons, List.sum_cons, List.sum_cons]; omega
  | trans _ _ ih1 ih2 => rw [ih1, ih2]
/-- the list holds the keys that are known, each once -/
def Kl (g : Nat → Nat) (M : List Nat) : Prop := M.Nodup ∧ ∀ k, k ∈ M ↔ k < 10 ∧ 0 < g (97 + k)
theorem Kl_perm {M : List Nat} (h : Kl g M) : M.Perm ((List.range' 0 10).filter (knb g)) := by
  refine (List.perm_ext_iff_of_nodup h.1 (List.Pairwise.filter _ (List.nodup_range' 1))).mpr (fun k => ?_)
  rw [h.2 k, List.mem_filter, List.mem_range'_1]
  unfold knb
  rw [decide_eq_true_eq]
  constructor
  · intro q
    exact ⟨⟨Nat.zero_le _, by omega⟩, q.2⟩
  · intro q
    exact ⟨by omega, q.2⟩
theorem wD_sum : ∀ d k, wD g d k = (((List.range' k d).filter (knb g)).map (fun k => 2 + cnt g k)).sum
  | 0, _ => rfl
  | d + 1, k => by
    rw [wD, List.range'_succ, wD_sum d (k + 1)]
    by_cases q : 0 < g (97 + k)
    · rw [if_pos q, List.filter_cons_of_pos (by unfold knb; exact decide_eq_true q), List.map_cons, List.sum_cons]
    · rw [if_neg q, List.filter_cons_of_neg (by unfold knb; rw [decide_eq_true_eq]; exact q), Nat.zero_add]
theorem kD_len : ∀ d k, kD g d k = ((List.range' k d).filter (knb g)).length
  | 0, _ => rfl
  | d + 1, k => by
    rw [kD, List.range'_succ, kD_len d (k + 1)]
    by_cases q : 0 < g (97 + k)
    · rw [if_pos q, List.filter_cons_of_pos (by unfold knb; exact decide_eq_true q), List.length_cons, Nat.add_comm]
    · rw [if_neg q, List.filter_cons_of_neg (by unfold knb; rw [decide_eq_true_eq]; exact q), Nat.zero_add]
theorem Kl_len {M : List Nat} (h : Kl g M) : M.length = kno g := by
  rw [(Kl_perm h).length_eq]
  exact (kD_len 10 0).symm
theorem l_weights (h1 : Lu σ g) (h2 : Li σ g) (hR : Rin g) {M : List Nat} (h : lr_R (σ 3) M) (hK : Kl g M) : F_L_weights σ = some (nI (wei g)) := by
  unfold F_L_weights
  have := l_weights_L h1 h2 hR h M.length 1000 0 0 (by omega) (by have := h.1; omega)
  rw [Nat.zero_add, List.drop_zero, pm_sum ((Kl_perm hK).map _), ← wD_sum] at this
  exact this
end LW9
