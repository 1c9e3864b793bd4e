/-! rewriting a row, beginning again -/
section CR1
variable {g : Nat → Nat} {μ : Hp}
def chG (g : Nat → Nat) (r k v : Nat) : Nat → Nat := un (un g (17 + 2 * r) k) (17 + 2 * r + 1) v
theorem chG_e (g : Nat → Nat) {r k v j : Nat} (hr : r < 20) (hj : ¬ (17 ≤ j ∧ j < 57)) : chG g r k v j = g j := by
  unfold chG
  rw [un_ne _ _ (by omega), un_ne _ _ (by omega)]
theorem chG_row (g : Nat → Nat) (r k v i : Nat) : chG g r k v (17 + 2 * i) = (if i = r then k else g (17 + 2 * i)) ∧ chG g r k v (18 + 2 * i) = (if i = r then v else g (18 + 2 * i)) := by
  unfold chG
  by_cases q : i = r
  · subst q
    rw [un_ne _ _ (by omega), un_same, show 18 + 2 * i = 17 + 2 * i + 1 by omega, un_same, if_pos rfl, if_pos rfl]
    exact ⟨rfl, rfl⟩
  · rw [un_ne _ _ (by omega), un_ne _ _ (by omega), un_ne _ _ (by omega), un_ne _ _ (by omega), if_neg q, if_neg q]
    exact ⟨rfl, rfl⟩
theorem chG_In {t c : Nat} (hI : In t c g) {r k v : Nat} (hr : r < g 5) (hk : k < 10) (hv : v ≤ 99) : In t c (chG g r k v) := by
  obtain ⟨⟨j5, j3, j4, jr⟩, hO, hKn, ⟨h0, h1, h2⟩, h8, i16, ht, hc⟩ := hI
  have e : ∀ j, ¬ (17 ≤ j ∧ j < 57) → chG g r k v j = g j := fun j a => chG_e g (by omega) a
  refine ⟨⟨?_, ?_, ?_, fun i hi => ?_⟩, ⟨?_, ?_, fun i hi => ?_⟩, ?_, ⟨?_, ?_, ?_⟩, ?_, ?_, ht, hc⟩
  · rw [e 5 (by omega)]; exact j5
  · rw [e 3 (by omega)]; exact j3
  · rw [e 4 (by omega)]; exact j4
  · rw [e 5 (by omega)] at hi
    rw [(chG_row g r k v i).1, (chG_row g r k v i).2]
    by_cases q : i = r
    · rw [if_pos q, if_pos q]; exact ⟨hk, hv⟩
    · rw [if_neg q, if_neg q]; exact jr i hi
  · rw [e 6 (by omega)]; exact hO.1
  · rw [e 6 (by omega), e 7 (by omega)]; exact hO.2.1
  · rw [e 6 (by omega)] at hi
    rw [e _ (by omega), e _ (by omega)]
    exact hO.2.2 i hi
  · intro j hj
    rw [e _ (by omega), e _ (by omega), e _ (by omega), e _ (by omega)]
    exact hKn j hj
  · rw [e 0 (by omega)]; exact h0
  · rw [e 1 (by omega)]; exact h1
  · rw [e 2 (by omega)]; exact h2
  · rw [e 8 (by omega), e 7 (by omega)]; exact h8
  · rw [e 16 (by omega)]; exact i16
theorem c_rewrite {σ : Hp} {t c : Nat} (hC : Cn σ g) (hI : In t c g) {r k v : Nat} (hr : r < g 5) (hk : k < 10) (hv : v ≤ 99) : ∃ σ', F_X4_rewriteRow σ (nI r) (nI k) (nI v) = some (nI (kno (kp (chG g r k v) (g (17 + 2 * r)) k)), σ') ∧ Cn σ' (kp (chG g r k v) (g (17 + 2 * r)) k) := by
  obtain ⟨hT, ha, hy, hm⟩ := id hC
  obtain ⟨⟨i1, i2⟩, ⟨u1, u2⟩, ⟨p1, p2⟩, s1'⟩ := id hT
  have h6 := hI.2.1.1
  have h5 := hI.1.1
  have hJ := chG_In hI hr hk hv
  have hL := kp_In hJ (g (17 + 2 * r)) k
  have i1' : lm_sh 4 σ 0 2 = nI (g 5) := i1
  have ek : lm_sh 4 σ 1 r = nI (g (17 + 2 * r)) := (i2 r hr).1
  have e : ∀ j, ¬ (17 ≤ j ∧ j < 57) → chG g r k v j = g j := fun j a => chG_e g (by omega) a
  have hcell : ∀ j, ¬ (4 ≤ j ∧ j < 7) → lm_sb σ 4 3 (lm_u (lm_u (lm_sh 4 σ) 1 r (nI k)) 2 r (nI v)) j = σ j := fun j hj => sb_out _ _ (by omega)
  have c1 : lm_sb σ 4 3 (lm_u (lm_u (lm_sh 4 σ) 1 r (nI k)) 2 r (nI v)) 4 = (lm_u (lm_u (lm_sh 4 σ) 1 r (nI k)) 2 r (nI v)) 0 := sb_in (c := 0) _ _ (by omega)
  have c2 : lm_sb σ 4 3 (lm_u (lm_u (lm_sh 4 σ) 1 r (nI k)) 2 r (nI v)) 5 = (lm_u (lm_u (lm_sh 4 σ) 1 r (nI k)) 2 r (nI v)) 1 := sb_in (c := 1) _ _ (by omega)
  have c3 : lm_sb σ 4 3 (lm_u (lm_u (lm_sh 4 σ) 1 r (nI k)) 2 r (nI v)) 6 = (lm_u (lm_u (lm_sh 4 σ) 1 r (nI k)) 2 r (nI v)) 2 := sb_in (c := 2) _ _ (by omega)
  have hT' : Ct (lm_sb σ 4 3 (lm_u (lm_u (lm_sh 4 σ) 1 r (nI k)) 2 r (nI v))) (chG g r k v) := by
    refine ⟨⟨?_, fun i hi => ?_⟩, ⟨?_, fun i hi => ?_⟩, ⟨?_, ?_⟩, fun j hj => ?_⟩
    · rw [c1, lu_c _ _ _ (by omega), lu_c _ _ _ (by omega), e 5 (by omega)]
      exact i1
    · rw [e 5 (by omega)] at hi
      rw [c2, c3, (chG_row g r k v i).1, (chG_row g r k v i).2, lu_c _ _ _ (by omega)]
      by_cases q : i = r
      · rw [if_pos q, if_pos q, q, lu_same, lu_same]
        exact ⟨rfl, rfl⟩
      · rw [if_neg q, if_neg q, lu_ne _ _ q, lu_ne _ _ q, lu_c _ _ _ (by omega)]
        exact i2 i hi
    · rw [hcell 1 (by omega), e 6 (by omega)]; exact u1
    · rw [e 6 (by omega)] at hi
      rw [hcell 2 (by omega), hcell 3 (by omega), e _ (by omega), e _ (by omega)]
      exact u2 i hi
    · rw [hcell 0 (by omega), e 7 (by omega)]; exact p1
    · rw [hcell 0 (by omega), e 8 (by omega)]; exact p2
    · rw [hcell 15 (by omega), e j (by omega)]; exact s1' j hj
  have hy' : Cy (lm_sb σ 4 3 (lm_u (lm_u (lm_sh 4 σ) 1 r (nI k)) 2 r (nI v))) (chG g r k v) (chG g r k v 11) := fun j hj => by
    rw [hcell 16 (by omega), e 11 (by omega), e (9 + j) (by omega)]
    exact hy j hj
  have hm' : Cm (lm_sb σ 4 3 (lm_u (lm_u (lm_sh 4 σ) 1 r (nI k)) 2 r (nI v))) (chG g r k v) := Cm_cells (Cm_un (Cm_un hm _ (by omega)) _ (by omega)) (fun c hc => hcell c (by omega))
  obtain ⟨jR, jO, jK, ⟨-, -, j2⟩, -, j16, -, jc⟩ := id hJ
  obtain ⟨σ', k1, k2⟩ := c_keepTrue hT' hy' hm' jR jO jK (by omega) j2 (hI.1.2.2.2 r hr).1 hk
  have k9 := c_msize k2.2.2.2 hL.2.2.1 (Nat.le_trans hL.2.2.2.2.2.1 hL.2.2.2.2.2.2.2)
  refine ⟨σ', ?_, Cn_kp k2⟩
  unfold F_X4_rewriteRow
  rw [c_has i1' h5 (by omega), if_pos hr, lm_bd_some, lm_br, if_neg (by decide), c_row (by omega) (by omega), if_pos ⟨by omega, hv⟩, lm_bd_some, lm_br, if_pos (by decide), c_key (by omega), lm_bd_some, c_put (by omega), lm_bd_some, lm_lt_eq, ek, k1, lm_bd_some, k9, lm_bd_some]
def agG (g : Nat → Nat) : Nat → Nat := un (un g 7 0) 8 0
theorem agG_e (g : Nat → Nat) {j : Nat} (h : j ≠ 7) (h8 : j ≠ 8) : agG g j = g j := by
  unfold agG
  rw [un_ne _ _ h8, un_ne _ _ h]
theorem agG_7 (g : Nat → Nat) : agG g 7 = 0 := by
  unfold agG
  rw [un_ne _ _ (by omega), un_same]
theorem agG_8 (g : Nat → Nat) : agG g 8 = 0 := un_same _ _ _
theorem agG_In {t c : Nat} (hI : In t c g) : In t c (agG g) := by
  obtain ⟨⟨j5, j3, j4, jr⟩, hO, hKn, ⟨h0, h1, h2⟩, h8, i16, ht, hc⟩ := hI
  have e : ∀ j, j ≠ 7 → j ≠ 8 → agG g j = g j := fun j a b => agG_e g a b
  refine ⟨⟨?_, ?_, ?_, fun i hi => ?_⟩, ⟨?_, ?_, fun i hi => ?_⟩, ?_, ⟨?_, ?_, ?_⟩, ?_, ?_, ht, hc⟩
  · rw [e 5 (by omega) (by omega)]; exact j5
  · rw [e 3 (by omega) (by omega)]; exact j3
  · rw [e 4 (by omega) (by omega)]; exact j4
  · rw [e 5 (by omega) (by omega)] at hi
    rw [e _ (by omega) (by omega), e _ (by omega) (by omega)]
    exact jr i hi
  · rw [e 6 (by omega) (by omega)]; exact hO.1
  · rw [agG_7]; omega
  · rw [e 6 (by omega) (by omega)] at hi
    rw [e _ (by omega) (by omega), e _ (by omega) (by omega)]
    exact hO.2.2 i hi
  · intro j hj
    rw [e _ (by omega) (by omega), e _ (by omega) (by omega), e _ (by omega) (by omega), e _ (by omega) (by omega)]
    exact hKn j hj
  · rw [e 0 (by omega) (by omega)]; exact h0
  · rw [e 1 (by omega) (by omega)]; exact h1
  · rw [e 2 (by omega) (by omega)]; exact h2
  · rw [agG_8]; omega
  · rw [e 16 (by omega) (by omega)]; exact i16
theorem c_again {σ : Hp} {t c : Nat} (hC : Cn σ g) (hI : In t c g) : ∃ σ', F_X4_beginAgain σ = some (nI (g 8), σ') ∧ Cn σ' (agG g) := by
  obtain ⟨hT, ha, hy, hm⟩ := id hC
  obtain ⟨⟨i1, i2⟩, ⟨u1, u2⟩, ⟨p1, p2⟩, s1'⟩ := id hT
  have h6 := hI.2.1.1
  have h5 := hI.1.1
  have e : ∀ j, j ≠ 7 → j ≠ 8 → agG g j = g j := fun j a b => agG_e g a b
  have hTq : Teq g (agG g) := ⟨e 5 (by omega) (by omega), e 3 (by omega) (by omega), e 4 (by omega) (by omega), fun i hi => ⟨e _ (by omega) (by omega), e _ (by omega) (by omega)⟩⟩
  unfold F_X4_beginAgain
  rw [lm_lt_eq, lm_lt_eq, p2]
  have hcell : ∀ c, c ≠ 0 → (lm_u (lm_u σ 0 6 0) 0 7 0) c = σ c := fun c hc => by rw [lu_c _ _ _ hc, lu_c _ _ _ hc]
  refine ⟨_, rfl, ⟨⟨?_, fun i hi => ?_⟩, ⟨?_, fun i hi => ?_⟩, ⟨?_, ?_⟩, fun j hj => ?_⟩, fun j hj => ?_, fun j hj => ?_, Cm_cells (Cm_un (Cm_un hm _ (by omega)) _ (by omega)) (fun c hc => hcell c (by omega))⟩
  · rw [hcell 4 (by omega), e 5 (by omega) (by omega)]; exact i1
  · rw [e 5 (by omega) (by omega)] at hi
    rw [hcell 5 (by omega), hcell 6 (by omega), e _ (by omega) (by omega), e _ (by omega) (by omega)]
    exact i2 i hi
  · rw [hcell 1 (by omega), e 6 (by omega) (by omega)]; exact u1
  · rw [e 6 (by omega) (by omega)] at hi
    rw [hcell 2 (by omega), hcell 3 (by omega), e _ (by omega) (by omega), e _ (by omega) (by omega)]
    exact u2 i hi
  · rw [lu_ne _ _ (by omega), lu_same, agG_7]; rfl
  · rw [lu_same, agG_8]; rfl
  · rw [hcell 15 (by omega), e j (by omega) (by omega)]; exact s1' j hj
  · rw [hTq.cnt, hTq.sm, hTq.fs, hcell 8 (by omega), hcell 9 (by omega), hcell 10 (by omega)]
    exact ha j hj
  · rw [hcell 16 (by omega), e 11 (by omega) (by omega), e (9 + j) (by omega) (by omega)]
    exact hy j hj
end CR1

