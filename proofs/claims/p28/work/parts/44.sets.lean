/-! settings, forgetting -/
section CS1
variable {g : Nat → Nat} {μ : Hp}
/-- what a setting may be at most -/
def hsN : Nat → Nat := fun j => match j with
  | 0 => 60
  | 1 => 2
  | 2 => 2
  | 3 => 99
  | 4 => 99
  | _ => 0
def seG (g : Nat → Nat) (i x : Nat) : Nat → Nat := if i = 0 then (mr (un g 0 x) 10).1 else la (un g i x)
def seN (g : Nat → Nat) (i x : Nat) : Nat := if i = 0 then (mr (un g 0 x) 10).2 else kno (un g i x)
theorem seU_In {t c : Nat} (hI : In t c g) {i x : Nat} (hi : i < 5) (hx : x ≤ hsN i) : In t c (un g i x) := by
  obtain ⟨⟨j5, j3, j4, jr⟩, hO, hKn, ⟨h0, h1, h2⟩, h8, i16, ht, hc⟩ := hI
  have x3 : i = 3 ∨ i = 4 → x ≤ 99 := fun q => by rcases q with q | q <;> subst q <;> exact hx
  have x0 : i = 0 → x ≤ 60 := fun q => by subst q; exact hx
  have x1 : i = 1 ∨ i = 2 → x ≤ 2 := fun q => by rcases q with q | q <;> subst q <;> exact hx
  have e : ∀ j, j ≠ i → un g i x j = g j := fun j a => un_ne _ _ a
  have p : ∀ j m, g j ≤ m → (i = j → x ≤ m) → un g i x j ≤ m := fun j m a b => by
    by_cases q : j = i
    · rw [q, un_same]; exact b q.symm
    · rw [un_ne _ _ q]; exact a
  refine ⟨⟨?_, p 3 99 j3 (fun q => x3 (Or.inl q)), p 4 99 j4 (fun q => x3 (Or.inr q)), fun k hk => ?_⟩, ⟨?_, ?_, fun k hk => ?_⟩, ?_, ⟨p 0 60 h0 x0, p 1 2 h1 (fun q => x1 (Or.inl q)), p 2 2 h2 (fun q => x1 (Or.inr q))⟩, ?_, ?_, ht, hc⟩
  · rw [e 5 (by omega)]; exact j5
  · rw [e 5 (by omega)] at hk
    rw [e _ (by omega), e _ (by omega)]
    exact jr k hk
  · rw [e 6 (by omega)]; exact hO.1
  · rw [e 6 (by omega), e 7 (by omega)]; exact hO.2.1
  · rw [e 6 (by omega)] at hk
    rw [e _ (by omega), e _ (by omega)]
    exact hO.2.2 k hk
  · intro j hj
    rw [e _ (by omega), e _ (by omega), e _ (by omega), e _ (by omega)]
    exact hKn j hj
  · rw [e 8 (by omega), e 7 (by omega)]; exact h8
  · rw [e 16 (by omega)]; exact i16
theorem la_In {t c : Nat} (hI : In t c g) : In t c (la g) := In_Sm hI (la_Sm g) (la_Kn hI.2.2.1).1 (Nat.le_of_eq (la_Kn hI.2.2.1).2)
theorem mr_In {t c : Nat} (hI : In t c g) (sp : Nat) : In t c (mr g sp).1 := In_Sm hI (Sm.mr Sm.rf sp) (mr_Kn hI.2.2.1 sp) (Nat.le_of_eq (mr_other (by omega) (by omega)))
theorem seG_In {t c : Nat} (hI : In t c g) {i x : Nat} (hi : i < 5) (hx : x ≤ hsN i) : In t c (seG g i x) := by
  unfold seG
  split
  · rename_i q
    subst q
    exact mr_In (seU_In hI hi hx) 10
  · exact la_In (seU_In hI hi hx)
theorem In.kb {t c : Nat} (hI : In t c g) : Kb g := fun j hj => by
  have := (hI.2.2.1 j hj).1
  have := hI.2.2.2.2.2.1
  have := hI.2.2.2.2.2.2.2
  omega
theorem In.kc {t c : Nat} (hI : In t c g) : Kc g := hI.2.2.1.c hI.2.2.2.1.2.1 (Nat.le_trans hI.2.2.2.2.2.1 hI.2.2.2.2.2.2.2)
theorem hs_eq {i : Nat} (hi : i < 5) : lm_hsI i = nI (hsN i) := by
  have : i = 0 ∨ i = 1 ∨ i = 2 ∨ i = 3 ∨ i = 4 := by omega
  rcases this with q | q | q | q | q <;> subst q <;> rfl
theorem Cn_of {σ : Hp} {g' : Nat → Nat} {x : Nat} (h : Cs σ g' x) (e : g' 11 = x) : Cn σ g' := by
  unfold Cn
  rw [e]
  exact h
theorem la_11 (g : Nat → Nat) : la g 11 = g 11 := by
  unfold la laF
  rw [if_neg (by omega), if_neg (by omega)]
theorem c_adjust {σ : Hp} {t c : Nat} (hC : Cn σ g) (hI : In t c g) {i x : Nat} (hi : i < 5) (hx : x ≤ hsN i) : ∃ σ', F_X4_adjust σ (nI i) (nI x) = some (nI (seN g i x), σ') ∧ Cn σ' (seG g i x) := by
  obtain ⟨hT, ha, hy, hm⟩ := id hC
  obtain ⟨⟨i1, i2⟩, ⟨u1, u2⟩, ⟨p1, p2⟩, s1'⟩ := id hT
  have h6 := hI.2.1.1
  have h5 := hI.1.1
  have hJ := seU_In hI hi hx
  have hx9 : x ≤ 99 := Nat.le_trans hx (by unfold hsN; split <;> omega)
  have hcell : ∀ c, c ≠ 15 → (lm_u σ 15 i (nI x)) c = σ c := fun c hc => lu_c _ _ _ hc
  have e : ∀ j, j ≠ i → un g i x j = g j := fun j a => un_ne _ _ a
  have hT' : Ct (lm_u σ 15 i (nI x)) (un g i x) := by
    refine ⟨⟨?_, fun k hk => ?_⟩, ⟨?_, fun k hk => ?_⟩, ⟨?_, ?_⟩, fun j hj => ?_⟩
    · rw [hcell 4 (by omega), e 5 (by omega)]; exact i1
    · rw [e 5 (by omega)] at hk
      rw [hcell 5 (by omega), hcell 6 (by omega), e _ (by omega), e _ (by omega)]
      exact i2 k hk
    · rw [hcell 1 (by omega), e 6 (by omega)]; exact u1
    · rw [e 6 (by omega)] at hk
      rw [hcell 2 (by omega), hcell 3 (by omega), e _ (by omega), e _ (by omega)]
      exact u2 k hk
    · rw [hcell 0 (by omega), e 7 (by omega)]; exact p1
    · rw [hcell 0 (by omega), e 8 (by omega)]; exact p2
    · by_cases q : j = i
      · subst q
        rw [lu_same, un_same]
      · rw [lu_ne _ _ q, e j q]
        exact s1' j hj
  have hy' : Cy (lm_u σ 15 i (nI x)) (un g i x) (g 11) := fun j hj => by
    rw [hcell 16 (by omega), e (9 + j) (by omega)]
    exact hy j hj
  have hm' : Cm (lm_u σ 15 i (nI x)) (un g i x) := Cm_cells (Cm_un hm _ (by omega)) (fun c hc => hcell c (by omega))
  obtain ⟨jR, jO, jK, ⟨j0, j1, j2⟩, -, j16, -, jc⟩ := id hJ
  unfold F_X4_adjust seN seG
  rw [lm_br, if_neg (by rw [ev_k0]; exact nI_nlt (Nat.zero_le _) (by omega)), lm_br, if_neg (by rw [ev_k4]; exact nI_nlt (by omega) (by omega)), lm_br, if_neg (by rw [ev_k0]; exact nI_nlt (Nat.zero_le _) (by omega)), ev_gi (by omega) (by omega), ev_cl (by omega), hs_eq hi, lm_br, if_pos (nI_le hx (by unfold hsN; split <;> omega)), ev_gi (by omega) (by omega), lm_lt_eq, lm_br]
  by_cases q : i = 0
  · subst q
    rw [if_neg (not_not_intro (show nI 0 = (0 : Int32) from rfl)), if_pos rfl, if_pos rfl]
    have hTq : Teq g (un g 0 x) := Teq_un _ h5 (by omega)
    have ha' : Ca (lm_u σ 15 0 (nI x)) (un g 0 x) := fun k hk => by
      rw [hTq.cnt, hTq.sm, hTq.fs, hcell 8 (by omega), hcell 9 (by omega), hcell 10 (by omega)]
      exact ha k hk
    obtain ⟨σ', k1, k2⟩ := c_makeRoom (sp := 10) (spi := -1) ⟨hT', ha', hy', hm'⟩ jR jO jK (by omega) j1 j0 (Or.inr ⟨by omega, rfl⟩) (fun z => by omega)
    rw [k1, lm_b2_some]
    exact ⟨_, rfl, Cn_of k2 (by rw [mr_other (by omega) (by omega), e 11 (by omega)])⟩
  · rw [if_pos (show ¬ nI i = (0 : Int32) from fun z => q ((nI_eq (b := 0) (by omega) (by omega)).mp z)), if_neg q, if_neg q]
    obtain ⟨σ1, f1, f2, f3⟩ := c_findAnswers hT' jR
    have hT1 : Ct σ1 (un g i x) := Ct_Mf hT' jR jO (fun c hc => f3 c (by omega)) Sm.rf
    have hy1 : Cy σ1 (un g i x) (g 11) := fun j hj => by rw [f3 16 (by omega)]; exact hy' j hj
    have hm1 : Cm σ1 (un g i x) := Cm_cells hm' (fun c hc => f3 c (by omega))
    obtain ⟨σ', k1, k2⟩ := c_throwAllOut hT1 f2 hy1 hm1 jR jO jK (by omega)
    rw [f1, lm_bd_some, k1, lm_b2_some]
    exact ⟨_, rfl, Cn_of k2 (by rw [la_11, e 11 (by omega)])⟩
theorem c_forget {σ : Hp} {t c : Nat} (hC : Cn σ g) (hI : In t c g) : ∃ σ', F_X4_throwAllOut σ = some (nI (kno g), σ') ∧ Cn σ' (la g) := by
  obtain ⟨hT, ha, hy, hm⟩ := id hC
  obtain ⟨σ', k1, k2⟩ := c_throwAllOut hT ha hy hm hI.1 hI.2.1 hI.2.2.1 (Nat.le_trans hI.2.2.2.2.2.1 hI.2.2.2.2.2.2.2)
  exact ⟨σ', k1, Cn_of k2 (la_11 g)⟩
end CS1

