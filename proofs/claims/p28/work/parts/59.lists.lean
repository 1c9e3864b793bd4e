/-! the law's rows of keys -/
section LK1
def lr_v : Option Nat → Int32
  | some k => nI k
  | none => -1
/-- a row of ten places holds the keys of a list, then -1 -/
def lr_R (f : Nat → Int32) (M : List Nat) : Prop := M.length ≤ 10 ∧ (∀ k ∈ M, k < 10) ∧ ∀ i, i < 10 → f i = lr_v M[i]?
theorem lr_some {f : Nat → Int32} {M : List Nat} (h : lr_R f M) {i : Nat} (hi : i < M.length) : f i = nI M[i] ∧ M[i] < 10 := by
  refine ⟨?_, h.2.1 _ (List.getElem_mem hi)⟩
  rw [h.2.2 i (Nat.lt_of_lt_of_le hi h.1), List.getElem?_eq_getElem hi]
  rfl
theorem lr_none {f : Nat → Int32} {M : List Nat} (h : lr_R f M) {i : Nat} (hi : M.length ≤ i) (h10 : i < 10) : f i = -1 := by
  rw [h.2.2 i h10, List.getElem?_eq_none hi]
  rfl
theorem l_many_L {σ : Hp} {M : List Nat} (h : lr_R (σ 0) M) : ∀ d n i, i + d = 10 → d < n → i ≤ M.length → F_L_many_L2 n σ (nI i) = some (nI M.length) := by
  have h10 := h.1
  intro d
  induction d with
  | zero =>
    intro n i hi hn hM
    cases n with
    | zero => omega
    | succ n =>
      have e : M.length = i := by omega
      rw [F_L_many_L2, lm_br, if_pos (show (10 : Int32) ≤ nI i from nI_le (a := 10) (by omega) (by omega)), e]
  | succ d ih =>
    intro n i hi hn hM
    cases n with
    | zero => omega
    | succ n =>
      rw [F_L_many_L2, lm_br, if_neg (show ¬ (10 : Int32) ≤ nI i from nI_ge (b := 10) (by omega) (by omega)), ev_gi (by omega) (by omega), ev_cl (by omega), lm_br]
      by_cases q : i < M.length
      · rw [(lr_some h q).1, if_neg (nI_pos (by have := (lr_some h q).2; omega)), nI_1]
        exact ih n (i + 1) (by omega) (by omega) (by omega)
      · have e : M.length = i := by omega
        rw [lr_none h (by omega) (by omega), if_pos (by decide), e]
theorem l_many {f : Nat → Int32} {M : List Nat} (h : lr_R f M) : F_L_many (lw_f1 f) = some (nI M.length) := by
  unfold F_L_many
  exact l_many_L (σ := lw_f1 f) h 10 1000 0 (by omega) (by omega) (Nat.zero_le _)
theorem l_has_L {σ : Hp} {M : List Nat} (h : lr_R (σ 0) M) {k : Nat} (hk : k < 10) : ∀ d n i, i + d = 10 → d < n → F_L_has_L4 n σ (nI k) (if k ∈ M.take i then nI 1 else nI 0) (nI i) = some (if k ∈ M then nI 1 else nI 0) := by
  have h10 := h.1
  intro d
  induction d with
  | zero =>
    intro n i hi hn
    cases n with
    | zero => omega
    | succ n =>
      rw [F_L_has_L4, lm_br, if_pos (show (10 : Int32) ≤ nI i from nI_le (a := 10) (by omega) (by omega)), List.take_of_length_le (by omega)]
      by_cases q : k ∈ M
      · rw [if_pos q]
        rfl
      · rw [if_neg q]
        rfl
  | succ d ih =>
    intro n i hi hn
    cases n with
    | zero => omega
    | succ n =>
      have step := ih n (i + 1) (by omega) (by omega)
      rw [List.take_add_one] at step
      rw [F_L_has_L4, lm_br, if_neg (show ¬ (10 : Int32) ≤ nI i from nI_ge (b := 10) (by omega) (by omega)), lm_br]
      by_cases q : k ∈ M.take i
      · rw [if_pos q, if_pos (by decide), nI_1]
        rw [if_pos (List.mem_append_left _ q)] at step
        exact step
      · rw [if_neg q, if_neg (by decide), ev_gi (by omega) (by omega), ev_cl (by omega), lm_br, nI_1]
        by_cases p : i < M.length
        · rw [(lr_some h p).1]
          have b := (lr_some h p).2
          rw [List.getElem?_eq_getElem p] at step
          by_cases e : M[i] = k
          · rw [if_neg (not_not_intro (by rw [e]))]
            rw [if_pos (List.mem_append_right _ (by rw [e]; exact List.mem_singleton.mpr rfl))] at step
            exact step
          · rw [if_pos (fun z => e ((nI_eq (by omega) (by omega)).mp z))]
            rw [if_neg (fun z => by
              rcases List.mem_append.mp z with z | z
              · exact q z
              · exact e (List.mem_singleton.mp z).symm)] at step
            exact step
        · rw [lr_none h (by omega) (by omega), if_pos (fun z => by
            have := nI_pos (n := k) (by omega)
            rw [← z] at this
            exact this (by decide))]
          rw [List.getElem?_eq_none (by omega), if_neg (fun z => by
            rcases List.mem_append.mp z with z | z
            · exact q z
            · exact absurd z List.not_mem_nil)] at step
          exact step
theorem l_has {f : Nat → Int32} {M : List Nat} (h : lr_R f M) {k : Nat} (hk : k < 10) : F_L_has (lw_f1 f) (nI k) = some (if k ∈ M then nI 1 else nI 0) := by
  unfold F_L_has
  have := l_has_L (σ := lw_f1 f) h hk 10 1000 0 (by omega) (by omega)
  rw [List.take_zero, if_neg List.not_mem_nil] at this
  exact this
/-- without a key -/
abbrev wo (M : List Nat) (k : Nat) : List Nat := M.filter (fun j => decide (j ≠ k))
theorem l_out_L {M : List Nat} (h10 : M.length ≤ 10) (hM : ∀ k ∈ M, k < 10) {k : Nat} (hk : k < 10) : ∀ d n i (σ : Hp), i + d = 10 → d < n → (∀ j, j < 10 → σ 0 j = if i ≤ j then lr_v M[j]? else lr_v (wo (M.take i) k)[j]?) → ∃ σ', F_L_out_L4 n σ (nI k) (nI (wo (M.take i) k).length) (nI i) = some σ' ∧ ∀ j, j < 10 → σ' 0 j = lr_v (wo M k)[j]? := by
  intro d
  induction d with
  | zero =>
    intro n i σ hi hn hσ
    cases n with
    | zero => omega
    | succ n =>
      refine ⟨σ, ?_, fun j hj => ?_⟩
      · rw [F_L_out_L4, lm_br, if_pos (show (10 : Int32) ≤ nI i from nI_le (a := 10) (by omega) (by omega))]
      · rw [hσ j hj, if_neg (by omega), List.take_of_length_le (by omega)]
  | succ d ih =>
    intro n i σ hi hn hσ
    cases n with
    | zero => omega
    | succ n =>
      have lt : (wo (M.take i) k).length ≤ i := Nat.le_trans (List.length_filter_le _ _) (by rw [List.length_take]; omega)
      have ei : σ 0 i = lr_v M[i]? := by rw [hσ i (by omega), if_pos (Nat.le_refl i)]
      rw [F_L_out_L4, lm_br, if_neg (show ¬ (10 : Int32) ≤ nI i from nI_ge (b := 10) (by omega) (by omega)), ev_gi (by omega) (by omega), ev_gi (by omega) (by omega), ev_cl (by omega), lm_lt_eq, lm_br, ei, nI_1]
      by_cases p : i < M.length
      · have b := hM _ (List.getElem_mem p)
        have e1 : lr_v M[i]? = nI M[i] := by rw [List.getElem?_eq_getElem p]; rfl
        have tk : M.take (i + 1) = M.take i ++ [M[i]] := by rw [List.take_add_one, List.getElem?_eq_getElem p]; rfl
        rw [e1, if_neg (nI_pos (by omega)), lm_br]
        by_cases e : M[i] = k
        · have f1 : wo (M.take (i + 1)) k = wo (M.take i) k := by
            unfold wo
            rw [tk, List.filter_append, List.filter_cons_of_neg (by simp [e]), List.filter_nil, List.append_nil]
          rw [if_pos (by rw [e]), ← f1]
          refine ih n (i + 1) _ (by omega) (by omega) (fun j hj => ?_)
          rw [f1]
          by_cases q : j = i
          · subst q
            rw [lu_same, if_neg (by omega), List.getElem?_eq_none lt]
            rfl
          · rw [lu_ne _ _ q, hσ j hj]
            by_cases r : i ≤ j
            · rw [if_pos r, if_pos (by omega)]
            · rw [if_neg r, if_neg (by omega)]
        · have f1 : wo (M.take (i + 1)) k = wo (M.take i) k ++ [M[i]] := by
            unfold wo
            rw [tk, List.filter_append, List.filter_cons_of_pos (by simp [e]), List.filter_nil]
          have f2 : (wo (M.take (i + 1)) k).length = (wo (M.take i) k).length + 1 := by rw [f1, List.length_append]; rfl
          rw [if_neg (fun z => e ((nI_eq (by omega) (by omega)).mp z)), ev_gi (by omega) (by omega), ev_cl (by omega), lm_lt_eq, nI_1, ← f2]
          refine ih n (i + 1) _ (by omega) (by omega) (fun j hj => ?_)
          by_cases q : j = (wo (M.take i) k).length
          · rw [q, lu_same, if_neg (by omega), f1, List.getElem?_append_right (Nat.le_refl _), Nat.sub_self]
            rfl
          · rw [lu_ne _ _ q]
            by_cases q2 : j = i
            · rw [q2, lu_same, if_neg (by omega), List.getElem?_eq_none (by omega)]
              rfl
            · rw [lu_ne _ _ q2, hσ j hj]
              by_cases r : i ≤ j
              · rw [if_pos r, if_pos (by omega)]
              · rw [if_neg r, if_neg (by omega), f1]
                by_cases r2 : j < (wo (M.take i) k).length
                · rw [List.getElem?_append_left r2]
                · rw [List.getElem?_eq_none (by omega), List.getElem?_eq_none (by rw [List.length_append]; show _ + 1 ≤ _; omega)]
      · have tk : M.take (i + 1) = M.take i := by rw [List.take_of_length_le (by omega), List.take_of_length_le (by omega)]
        have e1 : lr_v M[i]? = -1 := by rw [List.getElem?_eq_none (by omega)]; rfl
        rw [e1, if_pos (by decide), ← tk]
        refine ih n (i + 1) _ (by omega) (by omega) (fun j hj => ?_)
        rw [tk]
        by_cases q : j = i
        · subst q
          rw [lu_same, if_neg (by omega), List.getElem?_eq_none lt]
          rfl
        · rw [lu_ne _ _ q, hσ j hj]
          by_cases r : i ≤ j
          · rw [if_pos r, if_pos (by omega)]
          · rw [if_neg r, if_neg (by omega)]
theorem l_out {f : Nat → Int32} {M : List Nat} (h : lr_R f M) {k : Nat} (hk : k < 10) : ∃ τ, F_L_out (lw_f1 f) (nI k) = some τ ∧ lr_R (τ 0) (wo M k) := by
  obtain ⟨τ, h1, h2⟩ := l_out_L h.1 h.2.1 hk 10 1000 0 (lw_f1 f) (by omega) (by omega) (fun j hj => by
    rw [if_pos (Nat.zero_le j)]
    exact h.2.2 j hj)
  exact ⟨τ, h1, Nat.le_trans (List.length_filter_le _ _) h.1, fun j hj => h.2.1 j (List.mem_filter.mp hj).1, h2⟩
end LK1
