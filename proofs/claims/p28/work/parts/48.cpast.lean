/-! the class: the past -/
section CH2
variable {g : Nat → Nat}
theorem uB_same (h : Nat → Hp) (c : Nat) (τ : Hp) : lm_uB h c τ c = τ := if_pos rfl
theorem uB_ne (h : Nat → Hp) {c d : Nat} (τ : Hp) (q : d ≠ c) : lm_uB h c τ d = h d := if_neg q
/-- the class's past: n states in a ring of five, p the next place -/
def Hc (h : Nat → Hp) (p n : Nat) (H : Nat → Nat → Nat) : Prop := h 8 3 1 = nI p ∧ h 8 3 2 = nI n ∧ p < 5 ∧ n ≤ 4 ∧ ∀ i, i < n → Cn (h (3 + (p + 5 - n + i) % 5)) (H i)
theorem c_prepare {h : Nat → Hp} {p n t c : Nat} {H : Nat → Nat → Nat} (hC : Cn (h 0) g) (hI : In t c g) (hH : Hc h p n H) : ∃ h', F_X1_prepare h = some h' ∧ Hc h' p n H ∧ Cn (h' (3 + p)) g ∧ ∀ b, b ≠ 3 + p → h' b = h b := by
  obtain ⟨a1, a2, a3, a4, a5⟩ := id hH
  obtain ⟨τ, k1, k2⟩ := c_copy (σ := h (3 + p)) hC hI
  refine ⟨lm_uB h (3 + p) τ, ?_, ⟨?_, ?_, a3, a4, fun i hi => ?_⟩, ?_, fun b hb => uB_ne _ _ hb⟩
  · unfold F_X1_prepare
    rw [a1]
    have : p = 0 ∨ p = 1 ∨ p = 2 ∨ p = 3 ∨ p = 4 := by omega
    rcases this with q | q | q | q | q <;> subst q
    · rw [lm_br, if_pos (by decide)]
      rw [show (3 : Nat) + 0 = 3 from rfl] at k1
      rw [k1, lm_bd_some, lm_lt_eq]
    · rw [lm_br, if_neg (by decide), lm_br, if_pos (by decide)]
      rw [show (3 : Nat) + 1 = 4 from rfl] at k1
      rw [k1, lm_bd_some, lm_lt_eq]
    · rw [lm_br, if_neg (by decide), lm_br, if_neg (by decide), lm_br, if_pos (by decide)]
      rw [show (3 : Nat) + 2 = 5 from rfl] at k1
      rw [k1, lm_bd_some, lm_lt_eq]
    · rw [lm_br, if_neg (by decide), lm_br, if_neg (by decide), lm_br, if_neg (by decide), lm_br, if_pos (by decide)]
      rw [show (3 : Nat) + 3 = 6 from rfl] at k1
      rw [k1, lm_bd_some, lm_lt_eq]
    · rw [lm_br, if_neg (by decide), lm_br, if_neg (by decide), lm_br, if_neg (by decide), lm_br, if_neg (by decide), lm_br, if_pos (by decide)]
      rw [show (3 : Nat) + 4 = 7 from rfl] at k1
      rw [k1, lm_bd_some, lm_lt_eq]
  · rw [uB_ne _ _ (by omega)]; exact a1
  · rw [uB_ne _ _ (by omega)]; exact a2
  · rw [uB_ne _ _ (by omega)]; exact a5 i hi
  · rw [uB_same]; exact k2
theorem mod5 {p : Nat} (h : p < 5) : nI (p + 1) - nI (p + 1) / (5 : Int32) * (5 : Int32) = nI ((p + 1) % 5) := by
  have : p = 0 ∨ p = 1 ∨ p = 2 ∨ p = 3 ∨ p = 4 := by omega
  rcases this with q | q | q | q | q <;> subst q <;> decide
theorem mod5b {p : Nat} (h : p < 5) : (nI p + (5 : Int32) - 1) - (nI p + (5 : Int32) - 1) / (5 : Int32) * (5 : Int32) = nI ((p + 4) % 5) := by
  have : p = 0 ∨ p = 1 ∨ p = 2 ∨ p = 3 ∨ p = 4 := by omega
  rcases this with q | q | q | q | q <;> subst q <;> decide
theorem c_commit {h : Nat → Hp} {p n : Nat} {H : Nat → Nat → Nat} (hH : Hc h p n H) (hC : Cn (h (3 + p)) g) {r : Int32} (hr : ¬ r < 0) : ∃ h', F_X1_commit h r = some (r, h') ∧ Hc h' ((p + 1) % 5) (puN n) (puH n H g) ∧ (∀ b, b ≠ 8 → h' b = h b) ∧ (∀ c, c ≠ 3 → h' 8 c = h 8 c) := by
  obtain ⟨a1, a2, a3, a4, a5⟩ := hH
  unfold F_X1_commit
  rw [lm_br, if_neg hr, lm_lt_eq, lm_lt_eq, a1, nI_1, mod5 a3, uB_same, lu_ne _ _ (by omega), a2, nI_1, show (if (4 : Int32) < nI (n + 1) then (4 : Int32) else nI (n + 1)) = nI (puN n) by
    unfold puN
    have : n = 0 ∨ n = 1 ∨ n = 2 ∨ n = 3 ∨ n = 4 := by omega
    rcases this with q | q | q | q | q <;> subst q <;> rfl]
  refine ⟨_, rfl, ⟨?_, ?_, by omega, ?_, fun i hi => ?_⟩, fun b hb => ?_, fun c hc => ?_⟩
  · rw [uB_same, lu_ne _ _ (by omega), lu_same]
  · rw [uB_same, lu_same]
  · unfold puN
    split <;> omega
  · rw [uB_ne _ _ (by omega), uB_ne _ _ (by omega)]
    unfold puN at hi ⊢
    unfold puH
    by_cases q : n < 4
    · rw [if_pos q] at hi ⊢
      rw [if_pos q]
      by_cases e : i = n
      · rw [if_pos e, show ((p + 1) % 5 + 5 - (n + 1) + i) % 5 = p by omega]
        exact hC
      · rw [if_neg e, show ((p + 1) % 5 + 5 - (n + 1) + i) % 5 = (p + 5 - n + i) % 5 by omega]
        exact a5 i (by omega)
    · rw [if_neg q] at hi ⊢
      rw [if_neg q]
      by_cases e : i = 3
      · rw [if_pos e, show ((p + 1) % 5 + 5 - 4 + i) % 5 = p by omega]
        exact hC
      · rw [if_neg e, show ((p + 1) % 5 + 5 - 4 + i) % 5 = (p + 5 - n + (i + 1)) % 5 by omega]
        exact a5 (i + 1) (by omega)
  · rw [uB_ne _ _ hb, uB_ne _ _ hb]
  · rw [uB_same, lu_c _ _ _ hc, lu_c _ _ _ hc]
theorem c_commitNo {h : Nat → Hp} {r : Int32} (hr : r < 0) : F_X1_commit h r = some (r, h) := by
  unfold F_X1_commit
  rw [lm_br, if_pos hr]
end CH2

