/-! more that is asked -/
section TQ2
variable {g : Nat → Nat} {μ : Hp}
def tD (g : Nat → Nat) : Nat → Nat → Nat
  | 0, _ => 0
  | d + 1, i => g (58 + 2 * i) * sm g (g (57 + 2 * i)) + tD g d (i + 1)
theorem c_total_L {σ : Hp} (hC : Cn σ g) (hO : Rou g) : ∀ d n i acc, i + d = g 6 → d < n → F_X4_totalByAnswers_L4 n σ (nI acc) (nI i) = some (nI (acc + tD g d i)) := by
  obtain ⟨hT, hA, hY, hm⟩ := hC
  have h6 := hO.1
  have u1 : lm_sh 1 σ 0 2 = nI (g 6) := hT.2.1.1
  intro d
  induction d with
  | zero =>
    intro n i acc hi hn
    cases n with
    | zero => omega
    | succ n =>
      rw [F_X4_totalByAnswers_L4, tD, c_size, lm_bd_some, u1, lm_br, if_pos (nI_le (by omega) (by omega))]
      rfl
  | succ d ih =>
    intro n i acc hi hn
    cases n with
    | zero => omega
    | succ n =>
      have hk := (hO.2.2 i (by omega)).1
      obtain ⟨v1, v2⟩ := hT.2.1.2 i (by omega)
      have v1' : lm_sh 1 σ 1 i = nI (g (57 + 2 * i)) := v1
      have v2' : lm_sh 1 σ 2 i = nI (g (58 + 2 * i)) := v2
      have w1 : lm_sh 7 σ 2 (g (57 + 2 * i)) = nI (sm g (g (57 + 2 * i))) := (hA _ hk).2.1
      rw [F_X4_totalByAnswers_L4, tD, c_size, lm_bd_some, u1, lm_br, if_neg (nI_ge (by omega) (by omega)), c_value (by omega), lm_bd_some, c_key (by omega), lm_bd_some, v1', v2', c_sum hk, lm_bd_some, w1, ev_mul, ev_add, nI_1, ih n (i + 1) _ (by omega) (by omega), Nat.add_assoc]
theorem c_rows_L {σ : Hp} (hT : Ct σ g) (hR : Rin g) (hO : Rou g) {i : Nat} (hi : i < g 6) : ∀ d n j acc, j + d = g 5 → d < n → F_X4_totalByRows_L17 n σ (nI acc) (nI i) (nI j) = some (nI (acc + g (58 + 2 * i) * sD g (g (57 + 2 * i)) d j)) := by
  have h6 := hO.1
  obtain ⟨h5, h3, h4, hr⟩ := hR
  have i1 : lm_sh 4 σ 0 2 = nI (g 5) := hT.1.1
  have s3 : σ 15 3 = nI (g 3) := hT.2.2.2 3 (by omega)
  have s4 : σ 15 4 = nI (g 4) := hT.2.2.2 4 (by omega)
  obtain ⟨v1, v2⟩ := hT.2.1.2 i hi
  have v1' : lm_sh 1 σ 1 i = nI (g (57 + 2 * i)) := v1
  have v2' : lm_sh 1 σ 2 i = nI (g (58 + 2 * i)) := v2
  have hk := (hO.2.2 i hi).1
  intro d
  induction d with
  | zero =>
    intro n j acc hj hn
    cases n with
    | zero => omega
    | succ n =>
      rw [F_X4_totalByRows_L17, sD, c_size, lm_bd_some, i1, lm_br, if_pos (nI_le (by omega) (by omega))]
      rfl
  | succ d ih =>
    intro n j acc hj hn
    cases n with
    | zero => omega
    | succ n =>
      obtain ⟨w1, w2⟩ := hT.1.2 j (by omega)
      have w1' : lm_sh 4 σ 1 j = nI (g (17 + 2 * j)) := w1
      have w2' : lm_sh 4 σ 2 j = nI (g (18 + 2 * j)) := w2
      obtain ⟨r1, r2⟩ := hr j (by omega)
      have hb : F_X4_isInBand σ (nI (g (18 + 2 * j))) = some (if g 3 ≤ g (18 + 2 * j) ∧ g (18 + 2 * j) ≤ g 4 then nI 1 else nI 0) := by
        unfold F_X4_isInBand
        rw [s3, s4, lm_br]
        by_cases y1 : g 3 ≤ g (18 + 2 * j)
        · rw [if_neg (nI_nlt y1 (by omega)), lm_br]
          by_cases y2 : g (18 + 2 * j) ≤ g 4
          · rw [if_neg (nI_nlt y2 (by omega)), if_pos ⟨y1, y2⟩]
            rfl
          · rw [if_pos (nI_lt (by omega) (by omega)), if_neg (fun z => y2 z.2)]
            rfl
        · rw [if_pos (nI_lt (by omega) (by omega)), if_neg (fun z => y1 z.1)]
          rfl
      rw [F_X4_totalByRows_L17, sD, c_size, lm_bd_some, i1, lm_br, if_neg (nI_ge (by omega) (by omega)), c_key (by omega), lm_bd_some, c_key (by omega), lm_bd_some, w1', v1', lm_br]
      by_cases y0 : g (17 + 2 * j) = g (57 + 2 * i)
      · rw [if_neg (not_not_intro (by rw [y0])), c_value (by omega), lm_bd_some, w2', hb, lm_bd_some, lm_br]
        by_cases y1 : g 3 ≤ g (18 + 2 * j) ∧ g (18 + 2 * j) ≤ g 4
        · have hmt : mt g (g (57 + 2 * i)) j = true := by simp [mt, y0, y1]
          rw [if_pos y1, if_neg (by decide), if_pos hmt, c_value (by omega), lm_bd_some, lm_bd_some, v2', ev_mul, ev_add, nI_1, ih n (j + 1) _ (by omega) (by omega), Nat.mul_add, Nat.add_assoc]
        · have hmt : ¬ mt g (g (57 + 2 * i)) j = true := by
            simp only [mt, y0, Bool.and_eq_true, decide_eq_true_eq]
            exact fun z => y1 ⟨z.1.2, z.2⟩
          rw [if_neg y1, if_pos (by decide), if_neg hmt, nI_1, ih n (j + 1) _ (by omega) (by omega), Nat.zero_add]
      · have hmt : ¬ mt g (g (57 + 2 * i)) j = true := by
          simp only [mt, Bool.and_eq_true, decide_eq_true_eq]
          exact fun z => y0 z.1.1
        rw [if_pos (fun z => y0 ((nI_eq (by omega) (by omega)).mp z)), if_neg hmt, nI_1, ih n (j + 1) _ (by omega) (by omega), Nat.zero_add]
theorem c_rows {σ : Hp} (hC : Cn σ g) (hR : Rin g) (hO : Rou g) : ∀ d n i acc, i + d = g 6 → d < n → F_X4_totalByRows_L4 n σ (nI acc) (nI i) = some (nI (acc + tD g d i)) := by
  obtain ⟨hT, hA, hY, hm⟩ := hC
  have h6 := hO.1
  have h5 := hR.1
  have u1 : lm_sh 1 σ 0 2 = nI (g 6) := hT.2.1.1
  intro d
  induction d with
  | zero =>
    intro n i acc hi hn
    cases n with
    | zero => omega
    | succ n =>
      rw [F_X4_totalByRows_L4, tD, c_size, lm_bd_some, u1, lm_br, if_pos (nI_le (by omega) (by omega))]
      rfl
  | succ d ih =>
    intro n i acc hi hn
    cases n with
    | zero => omega
    | succ n =>
      rw [F_X4_totalByRows_L4, tD, c_size, lm_bd_some, u1, lm_br, if_neg (nI_ge (by omega) (by omega)), ev_k0, c_rows_L hT hR hO (i := i) (by omega) (g 5) 1000 0 acc (by omega) (by omega), lm_bd_some, nI_1, ih n (i + 1) _ (by omega) (by omega), Nat.add_assoc]
      rfl
end TQ2

