/-! adding a row -/
section CA1
variable {g : Nat → Nat} {μ : Hp}
theorem sb_in (σ τ : Hp) {o n c : Nat} (h : c < n) : lm_sb σ o n τ (o + c) = τ c := by
  unfold lm_sb
  rw [if_pos (by omega), Nat.add_sub_cancel_left]
theorem sb_out (σ τ : Hp) {o n c : Nat} (h : ¬ (o ≤ c ∧ c < o + n)) : lm_sb σ o n τ c = σ c := by
  unfold lm_sb
  rw [if_neg h]
def adO (g : Nat → Nat) (k v : Nat) : Nat → Nat := un (un (un g (57 + 2 * g 6) k) (57 + 2 * g 6 + 1) v) 6 (g 6 + 1)
def adI (g : Nat → Nat) (k v : Nat) : Nat → Nat := un (un (un g (17 + 2 * g 5) k) (17 + 2 * g 5 + 1) v) 5 (g 5 + 1)
theorem kp_Sm (g : Nat → Nat) (a b : Nat) : Sm g (kp g a b) := by
  unfold kp
  split
  · exact la_Sm g
  · intro j h1 h2
    unfold kpF
    split
    · rw [if_neg (by omega), if_neg (by omega)]
    · split
      · rw [if_neg (by omega)]
      · rfl
theorem kp_hi (g : Nat → Nat) (a b : Nat) {j : Nat} (h : 107 ≤ j ∨ j = 16 ∨ j = 11) : kp g a b j = g j := by
  unfold kp
  split
  · unfold la laF
    rw [if_neg (by omega), if_neg (by omega)]
  · unfold kpF
    split
    · rw [if_neg (by omega), if_neg (by omega)]
    · split
      · rw [if_neg (by omega)]
      · rfl
theorem kp_uses (g : Nat → Nat) (a b : Nat) {k : Nat} (hk : k < 10) : kp g a b (97 + k) = g (97 + k) ∨ kp g a b (97 + k) = 0 := by
  unfold kp
  split
  · unfold la laF
    rw [if_pos (by omega)]
    exact Or.inr rfl
  · unfold kpF
    split
    · by_cases q : 97 + 0 ≤ 97 + k ∧ 97 + k < 97 + 0 + 10 ∧ (97 + k = 97 + a ∨ 97 + k = 97 + b)
      · rw [if_pos q]
        exact Or.inr rfl
      · rw [if_neg q, if_neg (by omega)]
        exact Or.inl rfl
    · split
      · rw [if_neg (by omega)]
        exact Or.inl rfl
      · exact Or.inl rfl
theorem kp_Kn {g : Nat → Nat} (h : Kn g) (a b : Nat) : Kn (kp g a b) := by
  intro k hk
  obtain ⟨a1, a2⟩ := h k hk
  rw [kp_hi g a b (j := 16) (by omega), kp_hi g a b (j := 107 + k) (by omega), kp_hi g a b (j := 117 + k) (by omega)]
  rcases kp_uses g a b hk with e | e
  · rw [e]; exact ⟨a1, a2⟩
  · rw [e]; exact ⟨by omega, fun q => by omega⟩
theorem In_Sm {t c : Nat} {g g' : Nat → Nat} (hI : In t c g) (hS : Sm g g') (hK : Kn g') (h16 : g' 16 ≤ g 16) : In t c g' := by
  obtain ⟨hR, hO, hKn, ⟨h0, h1, h2⟩, h8, i16, ht, hc⟩ := hI
  refine ⟨hS.rin hR, hS.rou hO, hK, ⟨?_, ?_, ?_⟩, ?_, by omega, ht, hc⟩
  · rw [hS 0 (by omega) (by omega)]; exact h0
  · rw [hS 1 (by omega) (by omega)]; exact h1
  · rw [hS 2 (by omega) (by omega)]; exact h2
  · rw [hS 8 (by omega) (by omega), hS 7 (by omega) (by omega)]; exact h8
theorem kp_In {t c : Nat} (hI : In t c g) (a b : Nat) : In t c (kp g a b) := In_Sm hI (kp_Sm g a b) (kp_Kn hI.2.2.1 a b) (Nat.le_of_eq (kp_hi g a b (by omega)))
theorem adO_In {t c : Nat} (hI : In t c g) {k v : Nat} (hk : k < 10) (hv : v ≤ 99) (h6 : g 6 < 20) : In t c (adO g k v) := by
  obtain ⟨hR, hO, hKn, ⟨h0, h1, h2⟩, h8, i16, ht, hc⟩ := hI
  have e : ∀ j, j ≠ 6 → ¬ (57 ≤ j ∧ j < 97) → adO g k v j = g j := fun j a b => by
    unfold adO
    rw [un_ne _ _ a, un_ne _ _ (by omega), un_ne _ _ (by omega)]
  refine ⟨⟨?_, ?_, ?_, fun i hi => ?_⟩, ⟨?_, ?_, fun i hi => ?_⟩, ?_, ⟨?_, ?_, ?_⟩, ?_, ?_, ht, hc⟩
  · rw [e 5 (by omega) (by omega)]; exact hR.1
  · rw [e 3 (by omega) (by omega)]; exact hR.2.1
  · rw [e 4 (by omega) (by omega)]; exact hR.2.2.1
  · have h5 := hR.1
    rw [e 5 (by omega) (by omega)] at hi
    rw [e _ (by omega) (by omega), e _ (by omega) (by omega)]
    exact hR.2.2.2 i hi
  · unfold adO
    rw [un_same]; omega
  · rw [e 7 (by omega) (by omega)]
    unfold adO
    rw [un_same]
    have := hO.2.1
    omega
  · have hi' : i < g 6 + 1 := by
      unfold adO at hi
      rw [un_same] at hi
      exact hi
    unfold adO
    by_cases q : i = g 6
    · subst q
      rw [un_ne _ _ (by omega), un_ne _ _ (by omega), un_same, un_ne _ _ (by omega), show 58 + 2 * g 6 = 57 + 2 * g 6 + 1 by omega, un_same]
      exact ⟨hk, hv⟩
    · rw [un_ne _ _ (by omega), un_ne _ _ (by omega), un_ne _ _ (by omega), un_ne _ _ (by omega), un_ne _ _ (by omega), un_ne _ _ (by omega)]
      exact hO.2.2 i (by omega)
  · intro j hj
    rw [e _ (by omega) (by omega), e _ (by omega) (by omega), e _ (by omega) (by omega), e _ (by omega) (by omega)]
    exact hKn j hj
  · rw [e 0 (by omega) (by omega)]; exact h0
  · rw [e 1 (by omega) (by omega)]; exact h1
  · rw [e 2 (by omega) (by omega)]; exact h2
  · rw [e 8 (by omega) (by omega), e 7 (by omega) (by omega)]; exact h8
  · rw [e 16 (by omega) (by omega)]; exact i16
theorem adI_In {t c : Nat} (hI : In t c g) {k v : Nat} (hk : k < 10) (hv : v ≤ 99) (h5 : g 5 < 20) : In t c (adI g k v) := by
  obtain ⟨hR, hO, hKn, ⟨h0, h1, h2⟩, h8, i16, ht, hc⟩ := hI
  have e : ∀ j, j ≠ 5 → ¬ (17 ≤ j ∧ j < 57) → adI g k v j = g j := fun j a b => by
    unfold adI
    rw [un_ne _ _ a, un_ne _ _ (by omega), un_ne _ _ (by omega)]
  refine ⟨⟨?_, ?_, ?_, fun i hi => ?_⟩, ⟨?_, ?_, fun i hi => ?_⟩, ?_, ⟨?_, ?_, ?_⟩, ?_, ?_, ht, hc⟩
  · unfold adI
    rw [un_same]; omega
  · rw [e 3 (by omega) (by omega)]; exact hR.2.1
  · rw [e 4 (by omega) (by omega)]; exact hR.2.2.1
  · have hi' : i < g 5 + 1 := by
      unfold adI at hi
      rw [un_same] at hi
      exact hi
    unfold adI
    by_cases q : i = g 5
    · subst q
      rw [un_ne _ _ (by omega), un_ne _ _ (by omega), un_same, un_ne _ _ (by omega), show 18 + 2 * g 5 = 17 + 2 * g 5 + 1 by omega, un_same]
      exact ⟨hk, hv⟩
    · rw [un_ne _ _ (by omega), un_ne _ _ (by omega), un_ne _ _ (by omega), un_ne _ _ (by omega), un_ne _ _ (by omega), un_ne _ _ (by omega)]
      exact hR.2.2.2 i (by omega)
  · rw [e 6 (by omega) (by omega)]; exact hO.1
  · rw [e 6 (by omega) (by omega), e 7 (by omega) (by omega)]; exact hO.2.1
  · have h6 := hO.1
    rw [e 6 (by omega) (by omega)] at hi
    rw [e _ (by omega) (by omega), e _ (by omega) (by omega)]
    exact hO.2.2 i hi
  · intro j hj
    rw [e _ (by omega) (by omega), e _ (by omega) (by omega), e _ (by omega) (by omega), e _ (by omega) (by omega)]
    exact hKn j hj
  · rw [e 0 (by omega) (by omega)]; exact h0
  · rw [e 1 (by omega) (by omega)]; exact h1
  · rw [e 2 (by omega) (by omega)]; exact h2
  · rw [e 8 (by omega) (by omega), e 7 (by omega) (by omega)]; exact h8
  · rw [e 16 (by omega) (by omega)]; exact i16
theorem c_push {τ : Hp} {n k v : Nat} (h : τ 0 2 = nI n) (hn : n < 20) : F_X5_push τ (nI k) (nI v) = some (lm_u (lm_u (lm_u τ 1 n (nI k)) 2 n (nI v)) 0 2 (nI (n + 1))) := by
  have a2 : (lm_u (lm_u τ 1 n (nI k)) 2 n (nI v)) 0 2 = nI n := by rw [lu_c _ _ _ (by omega), lu_c _ _ _ (by omega), h]
  unfold F_X5_push F_X5_put
  simp (disch := omega) only [lm_br, lm_bd_some, lm_b2_some, lm_lt_eq, ev_gi, ev_cl, ev_add, ev_mul, ev_sub, ev_lt_t, ev_lt_f, ev_le_t, ev_le_f, ev_eq_t, ev_eq_f, if_true, if_false, ite_true, ite_false, not_true, not_false_eq_true, eq_self, and_self, and_true, true_and, and_false, false_and, or_true, true_or, or_false, false_or, Bool.false_eq_true, reduceIte, ev_k0, ev_k1, ev_k2, ev_k3, ev_k4, ev_k5, ev_k6, ev_k7, ev_k8, ev_k9, ev_k10, ev_k11, ev_k12, ev_k13, ev_k14, ev_k15, ev_k16, ev_k17, ev_k18, ev_k19, ev_k20, ev_k33, ev_k43, ev_k44, ev_k45, ev_k48, ev_k57, ev_k58, ev_k59, ev_k60, ev_k97, ev_k99, ev_k107, ev_k114, ev_k115, ev_k117, ev_k124, ev_k126, ev_k127, ev_k381, ev_k508, h, a2]
end CA1

