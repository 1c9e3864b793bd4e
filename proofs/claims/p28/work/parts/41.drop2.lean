/-! taking a row out: the reference, whole -/
section CD2
variable {g : Nat → Nat} {μ : Hp}
theorem drO_e (g : Nat → Nat) {r j : Nat} (h6 : g 6 ≤ 20) (h : j ≠ 6) (h7 : j ≠ 7) (hj : ¬ (57 ≤ j ∧ j < 97)) : drO g r j = g j := by
  unfold drO
  rw [un_ne _ _ h7, sh2_out (by omega), un_ne _ _ h]
theorem drI_e (g : Nat → Nat) {r j : Nat} (h5 : g 5 ≤ 20) (h : j ≠ 5) (hj : ¬ (17 ≤ j ∧ j < 57)) : drI g r j = g j := by
  unfold drI
  rw [sh2_out (by omega), un_ne _ _ h]
theorem drO_6 (g : Nat → Nat) (r : Nat) : drO g r 6 = g 6 - 1 := by
  unfold drO
  rw [un_ne _ _ (by omega), sh2_out (by omega), un_same]
theorem drO_7 (g : Nat → Nat) (r : Nat) : drO g r 7 = g 7 - (if r < g 7 then 1 else 0) := by
  unfold drO
  rw [un_same]
theorem drI_5 (g : Nat → Nat) (r : Nat) : drI g r 5 = g 5 - 1 := by
  unfold drI
  rw [sh2_out (by omega), un_same]
theorem drO_row (g : Nat → Nat) {r i : Nat} (hi : i < g 6 - 1) : drO g r (57 + 2 * i) = g (57 + 2 * (if r ≤ i then i + 1 else i)) ∧ drO g r (58 + 2 * i) = g (58 + 2 * (if r ≤ i then i + 1 else i)) := by
  unfold drO
  rw [un_ne _ _ (by omega), un_ne _ _ (by omega)]
  by_cases q : r ≤ i
  · rw [if_pos q, sh2_in (by omega), sh2_in (by omega), un_ne _ _ (by omega), un_ne _ _ (by omega), show 57 + 2 * i + 2 = 57 + 2 * (i + 1) by omega, show 58 + 2 * i + 2 = 58 + 2 * (i + 1) by omega]
    exact ⟨rfl, rfl⟩
  · rw [if_neg q, sh2_out (by omega), sh2_out (by omega), un_ne _ _ (by omega), un_ne _ _ (by omega)]
    exact ⟨rfl, rfl⟩
theorem drI_row (g : Nat → Nat) {r i : Nat} (hi : i < g 5 - 1) : drI g r (17 + 2 * i) = g (17 + 2 * (if r ≤ i then i + 1 else i)) ∧ drI g r (18 + 2 * i) = g (18 + 2 * (if r ≤ i then i + 1 else i)) := by
  unfold drI
  by_cases q : r ≤ i
  · rw [if_pos q, sh2_in (by omega), sh2_in (by omega), un_ne _ _ (by omega), un_ne _ _ (by omega), show 17 + 2 * i + 2 = 17 + 2 * (i + 1) by omega, show 18 + 2 * i + 2 = 18 + 2 * (i + 1) by omega]
    exact ⟨rfl, rfl⟩
  · rw [if_neg q, sh2_out (by omega), sh2_out (by omega), un_ne _ _ (by omega), un_ne _ _ (by omega)]
    exact ⟨rfl, rfl⟩
/-- taking a row out may take a done one: then the bound for the total needs one step more -/
theorem drO_In {t c : Nat} (hI : In t c g) (ht1 : t < 1000) {r : Nat} (hr : r < g 6) : In (t + 1) c (drO g r) := by
  obtain ⟨hR, hO, hKn, ⟨h0, h1, h2⟩, h8, i16, ht, hc⟩ := hI
  have e : ∀ j, j ≠ 6 → j ≠ 7 → ¬ (57 ≤ j ∧ j < 97) → drO g r j = g j := fun j a b c => drO_e g hO.1 a b c
  obtain ⟨j6, j7, jr⟩ := hO
  refine ⟨⟨?_, ?_, ?_, fun i hi => ?_⟩, ⟨?_, ?_, fun i hi => ?_⟩, ?_, ⟨?_, ?_, ?_⟩, ?_, ?_, by omega, hc⟩
  · rw [e 5 (by omega) (by omega) (by omega)]; exact hR.1
  · rw [e 3 (by omega) (by omega) (by omega)]; exact hR.2.1
  · rw [e 4 (by omega) (by omega) (by omega)]; exact hR.2.2.1
  · have h5 := hR.1
    rw [e 5 (by omega) (by omega) (by omega)] at hi
    rw [e _ (by omega) (by omega) (by omega), e _ (by omega) (by omega) (by omega)]
    exact hR.2.2.2 i hi
  · rw [drO_6]; omega
  · rw [drO_6, drO_7]
    split <;> omega
  · rw [drO_6] at hi
    rw [(drO_row g hi).1, (drO_row g hi).2]
    exact jr _ (by split <;> omega)
  · intro j hj
    rw [e _ (by omega) (by omega) (by omega), e _ (by omega) (by omega) (by omega), e _ (by omega) (by omega) (by omega), e _ (by omega) (by omega) (by omega)]
    exact hKn j hj
  · rw [e 0 (by omega) (by omega) (by omega)]; exact h0
  · rw [e 1 (by omega) (by omega) (by omega)]; exact h1
  · rw [e 2 (by omega) (by omega) (by omega)]; exact h2
  · rw [e 8 (by omega) (by omega) (by omega), drO_7]
    split <;> omega
  · rw [e 16 (by omega) (by omega) (by omega)]; exact i16
theorem drI_In {t c : Nat} (hI : In t c g) {r : Nat} (hr : r < g 5) : In t c (drI g r) := by
  obtain ⟨hR, hO, hKn, ⟨h0, h1, h2⟩, h8, i16, ht, hc⟩ := hI
  have e : ∀ j, j ≠ 5 → ¬ (17 ≤ j ∧ j < 57) → drI g r j = g j := fun j a c => drI_e g hR.1 a c
  obtain ⟨j5, j3, j4, jr⟩ := hR
  refine ⟨⟨?_, ?_, ?_, fun i hi => ?_⟩, ⟨?_, ?_, fun i hi => ?_⟩, ?_, ⟨?_, ?_, ?_⟩, ?_, ?_, ht, hc⟩
  · rw [drI_5]; omega
  · rw [e 3 (by omega) (by omega)]; exact j3
  · rw [e 4 (by omega) (by omega)]; exact j4
  · rw [drI_5] at hi
    rw [(drI_row g hi).1, (drI_row g hi).2]
    exact jr _ (by split <;> omega)
  · rw [e 6 (by omega) (by omega)]; exact hO.1
  · rw [e 6 (by omega) (by omega), e 7 (by omega) (by omega)]; exact hO.2.1
  · have h6 := hO.1
    rw [e 6 (by omega) (by omega)] at hi
    rw [e _ (by omega) (by omega), e _ (by omega) (by omega)]
    exact hO.2.2 i hi
  · intro j hj
    rw [e _ (by omega) (by omega), e _ (by omega) (by omega), e _ (by omega) (by omega), e _ (by omega) (by omega)]
    exact hKn j hj
  · rw [e 0 (by omega) (by omega)]; exact h0
  · rw [e 1 (by omega) (by omega)]; exact h1
  · rw [e 2 (by omega) (by omega)]; exact h2
  · rw [e 8 (by omega) (by omega), e 7 (by omega) (by omega)]; exact h8
  · rw [e 16 (by omega) (by omega)]; exact i16
end CD2

