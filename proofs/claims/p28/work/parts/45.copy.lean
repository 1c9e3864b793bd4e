/-! copying a state -/
section CC1
variable {g : Nat → Nat}
theorem lm_cpy0 {f h : Nat → Int32} {n j : Nat} (q : j < n) : va_cpy f h 0 0 n j = f j := by
  unfold va_cpy
  rw [if_pos ⟨Nat.zero_le _, by omega⟩, Nat.zero_add, Nat.sub_zero]
theorem ua_same (σ : Hp) (c : Nat) (f : Nat → Int32) : lm_ua σ c f c = f := if_pos rfl
theorem ua_c (σ : Hp) {c d : Nat} (f : Nat → Int32) (h : d ≠ c) : lm_ua σ c f d = σ d := if_neg h
theorem cp_tab (σ ρ : Hp) : ∃ τ, F_X5_copyFrom σ ρ = some τ ∧ τ 0 2 = ρ 0 2 ∧ ∀ i, i < 20 → τ 1 i = ρ 1 i ∧ τ 2 i = ρ 2 i := by
  unfold F_X5_copyFrom
  rw [lm_lt_eq, lm_lt_eq, lm_lt_eq]
  refine ⟨_, rfl, lu_same _ _ _ _, fun i hi => ⟨?_, ?_⟩⟩
  · rw [lu_c _ _ _ (by omega), ua_c _ _ (by omega), ua_same, lm_cpy0 hi]
  · rw [lu_c _ _ _ (by omega), ua_same, lm_cpy0 hi]
theorem cp_ans (σ ρ : Hp) : ∃ τ, F_X0_copyFrom σ ρ = some τ ∧ ∀ i, i < 10 → τ 1 i = ρ 1 i ∧ τ 2 i = ρ 2 i ∧ τ 3 i = ρ 3 i := by
  unfold F_X0_copyFrom
  rw [lm_lt_eq, lm_lt_eq, lm_lt_eq]
  refine ⟨_, rfl, fun i hi => ⟨?_, ?_, ?_⟩⟩
  · rw [ua_c _ _ (by omega), ua_c _ _ (by omega), ua_same, lm_cpy0 hi]
  · rw [ua_c _ _ (by omega), ua_same, lm_cpy0 hi]
  · rw [ua_same, lm_cpy0 hi]
theorem cp_mem (σ ρ : Hp) : ∃ τ, F_X2_copyFrom σ ρ = some τ ∧ τ 0 3 = ρ 0 3 ∧ ∀ i, i < 10 → τ 1 i = ρ 1 i ∧ τ 2 i = ρ 2 i ∧ τ 3 i = ρ 3 i := by
  unfold F_X2_copyFrom
  rw [lm_lt_eq, lm_lt_eq, lm_lt_eq, lm_lt_eq]
  refine ⟨_, rfl, lu_same _ _ _ _, fun i hi => ⟨?_, ?_, ?_⟩⟩
  · rw [lu_c _ _ _ (by omega), ua_c _ _ (by omega), ua_c _ _ (by omega), ua_same, lm_cpy0 hi]
  · rw [lu_c _ _ _ (by omega), ua_c _ _ (by omega), ua_same, lm_cpy0 hi]
  · rw [lu_c _ _ _ (by omega), ua_same, lm_cpy0 hi]
/-- the two stand for the same state -/
def Ag (σ ρ : Hp) : Prop := (σ 0 6 = ρ 0 6 ∧ σ 0 7 = ρ 0 7 ∧ σ 1 2 = ρ 1 2 ∧ σ 4 2 = ρ 4 2 ∧ σ 11 3 = ρ 11 3) ∧ (∀ i, i < 20 → σ 2 i = ρ 2 i ∧ σ 3 i = ρ 3 i ∧ σ 5 i = ρ 5 i ∧ σ 6 i = ρ 6 i) ∧ (∀ i, i < 10 → σ 8 i = ρ 8 i ∧ σ 9 i = ρ 9 i ∧ σ 10 i = ρ 10 i ∧ σ 12 i = ρ 12 i ∧ σ 13 i = ρ 13 i ∧ σ 14 i = ρ 14 i) ∧ (∀ i, i < 5 → σ 15 i = ρ 15 i) ∧ (∀ i, i < 7 → σ 16 i = ρ 16 i)
theorem cp_state (σ ρ : Hp) : ∃ σ', F_X4_copyFrom σ ρ = some σ' ∧ Ag σ' ρ := by
  obtain ⟨τ1, a1, a2, a3⟩ := cp_tab (lm_sh 1 σ) (lm_sh 1 ρ)
  obtain ⟨τ2, b1, b2, b3⟩ := cp_tab (lm_sh 4 (lm_sb σ 1 3 τ1)) (lm_sh 4 ρ)
  obtain ⟨τ3, c1, c3⟩ := cp_ans (lm_sh 7 (lm_sb (lm_sb σ 1 3 τ1) 4 3 τ2)) (lm_sh 7 ρ)
  obtain ⟨τ4, d1, d2, d3⟩ := cp_mem (lm_sh 11 (lm_sb (lm_sb (lm_sb σ 1 3 τ1) 4 3 τ2) 7 4 τ3)) (lm_sh 11 ρ)
  unfold F_X4_copyFrom
  rw [a1, lm_bd_some, lm_lt_eq, b1, lm_bd_some, lm_lt_eq, c1, lm_bd_some, lm_lt_eq, d1, lm_bd_some, lm_lt_eq, lm_lt_eq, lm_lt_eq, lm_lt_eq, lm_lt_eq]
  generalize hX : lm_sb (lm_sb (lm_sb (lm_sb σ 1 3 τ1) 4 3 τ2) 7 4 τ3) 11 4 τ4 = X
  have x1 : ∀ c, c < 3 → X (1 + c) = τ1 c := fun c hc => by rw [← hX, sb_out _ _ (by omega), sb_out _ _ (by omega), sb_out _ _ (by omega), sb_in _ _ hc]
  have x4 : ∀ c, c < 3 → X (4 + c) = τ2 c := fun c hc => by rw [← hX, sb_out _ _ (by omega), sb_out _ _ (by omega), sb_in _ _ hc]
  have x7 : ∀ c, c < 4 → X (7 + c) = τ3 c := fun c hc => by rw [← hX, sb_out _ _ (by omega), sb_in _ _ hc]
  have x11 : ∀ c, c < 4 → X (11 + c) = τ4 c := fun c hc => by rw [← hX, sb_in _ _ hc]
  generalize hY : lm_u (lm_u (lm_ua (lm_ua X 15 (va_cpy (ρ 15) (X 15) 0 0 5)) 16 (va_cpy (ρ 16) (lm_ua X 15 (va_cpy (ρ 15) (X 15) 0 0 5) 16) 0 0 7)) 0 6 (ρ 0 6)) 0 7 (ρ 0 7) = Y
  have y : ∀ c, c ≠ 0 → c < 15 → Y c = X c := fun c h0 h1 => by rw [← hY, lu_c _ _ _ h0, lu_c _ _ _ h0, ua_c _ _ (by omega), ua_c _ _ (by omega)]
  refine ⟨_, rfl, ⟨?_, ?_, ?_, ?_, ?_⟩, fun i hi => ⟨?_, ?_, ?_, ?_⟩, fun i hi => ⟨?_, ?_, ?_, ?_, ?_, ?_⟩, fun i hi => ?_, fun i hi => ?_⟩
  · rw [← hY, lu_ne _ _ (by omega), lu_same]
  · rw [← hY, lu_same]
  · rw [y 1 (by omega) (by omega), show X 1 = τ1 0 from x1 0 (by omega)]; exact a2
  · rw [y 4 (by omega) (by omega), show X 4 = τ2 0 from x4 0 (by omega)]; exact b2
  · rw [y 11 (by omega) (by omega), show X 11 = τ4 0 from x11 0 (by omega)]; exact d2
  · rw [y 2 (by omega) (by omega), show X 2 = τ1 1 from x1 1 (by omega)]; exact (a3 i hi).1
  · rw [y 3 (by omega) (by omega), show X 3 = τ1 2 from x1 2 (by omega)]; exact (a3 i hi).2
  · rw [y 5 (by omega) (by omega), show X 5 = τ2 1 from x4 1 (by omega)]; exact (b3 i hi).1
  · rw [y 6 (by omega) (by omega), show X 6 = τ2 2 from x4 2 (by omega)]; exact (b3 i hi).2
  · rw [y 8 (by omega) (by omega), show X 8 = τ3 1 from x7 1 (by omega)]; exact (c3 i hi).1
  · rw [y 9 (by omega) (by omega), show X 9 = τ3 2 from x7 2 (by omega)]; exact (c3 i hi).2.1
  · rw [y 10 (by omega) (by omega), show X 10 = τ3 3 from x7 3 (by omega)]; exact (c3 i hi).2.2
  · rw [y 12 (by omega) (by omega), show X 12 = τ4 1 from x11 1 (by omega)]; exact (d3 i hi).1
  · rw [y 13 (by omega) (by omega), show X 13 = τ4 2 from x11 2 (by omega)]; exact (d3 i hi).2.1
  · rw [y 14 (by omega) (by omega), show X 14 = τ4 3 from x11 3 (by omega)]; exact (d3 i hi).2.2
  · rw [← hY, lu_c _ _ _ (by omega), lu_c _ _ _ (by omega), ua_c _ _ (by omega), ua_same, lm_cpy0 hi]
  · rw [← hY, lu_c _ _ _ (by omega), lu_c _ _ _ (by omega), ua_same, lm_cpy0 hi]
theorem Ag_Cn {σ ρ : Hp} (h : Ag σ ρ) (hC : Cn ρ g) (h5 : g 5 ≤ 20) (h6 : g 6 ≤ 20) : Cn σ g := by
  obtain ⟨⟨a1, a2, a3, a4, a5⟩, b, c, d, e⟩ := h
  obtain ⟨⟨⟨i1, i2⟩, ⟨u1, u2⟩, ⟨p1, p2⟩, s1'⟩, ha, hy, q, l, f, c1, c2, c3, c4⟩ := hC
  refine ⟨⟨⟨by rw [a4]; exact i1, fun i hi => ?_⟩, ⟨by rw [a3]; exact u1, fun i hi => ?_⟩, ⟨by rw [a1]; exact p1, by rw [a2]; exact p2⟩, fun j hj => by rw [d j hj]; exact s1' j hj⟩, fun k hk => ?_, fun j hj => by rw [e j hj]; exact hy j hj, q, l, f, by rw [a5]; exact c1, c2, fun k hk => ?_, c4⟩
  · rw [(b i (by omega)).2.2.1, (b i (by omega)).2.2.2]; exact i2 i hi
  · rw [(b i (by omega)).1, (b i (by omega)).2.1]; exact u2 i hi
  · rw [(c k hk).1, (c k hk).2.1, (c k hk).2.2.1]; exact ha k hk
  · rw [(c k hk).2.2.2.1, (c k hk).2.2.2.2.1, (c k hk).2.2.2.2.2]; exact c3 k hk
theorem c_copy {σ ρ : Hp} {t c : Nat} (hC : Cn ρ g) (hI : In t c g) : ∃ σ', F_X4_copyFrom σ ρ = some σ' ∧ Cn σ' g := by
  obtain ⟨σ', k1, k2⟩ := cp_state σ ρ
  exact ⟨σ', k1, Ag_Cn k2 hC hI.1.1 hI.2.1.1⟩
end CC1

