/-! the class: steps -/
section CW
variable {g : Nat → Nat}
theorem Cs_11 {σ : Hp} {x : Nat} (h : Cs σ g x) (hR : Rin g) (hO : Rou g) (y : Nat) : Cs σ (un g 11 y) x := by
  obtain ⟨hT, ha, hy, hm⟩ := h
  have hS : Sm g (un g 11 y) := Sm.rf.un _ (by omega)
  refine ⟨Ct_Mf hT hR hO (fun _ _ => rfl) hS, Ca_Mf ha hR.1 (fun _ _ => rfl) hS, fun j hj => ?_, ?_⟩
  · rw [hy j hj]
    congr 1
    split
    · rfl
    · rw [un_ne _ _ (by omega)]
  · obtain ⟨q, l, f, c1, c2, c3, c4⟩ := hm
    refine ⟨q, l, f, c1, by rw [un_ne _ _ (by omega)]; exact c2, fun i hi => ?_, fun i j hi hj => ?_⟩
    · rw [un_ne _ _ (by omega)]
      exact c3 i hi
    · rw [un_ne _ _ (by omega), un_ne _ _ (by omega), un_ne _ _ (by omega), un_ne _ _ (by omega), un_ne _ _ (by omega), un_ne _ _ (by omega)]
      exact c4 i j hi hj
theorem c_step {σ : Hp} {x t c : Nat} (hC : Cs σ g x) (hI : In t c g) (hc : c < 1000000) (hq : g 7 < g 6) (F : Hp → Option (Int32 × Hp)) : ∃ σ', (lm_bd (F_X5_key (lm_sh 1 σ) (σ 0 6)) fun r8 =>
      lm_bd (F_X4_lookUp σ r8) fun σ9 =>
      lm_bd (F_X5_value (lm_sh 1 σ9) (σ9 0 6)) fun r10 =>
      lm_bd (F_X0_sum (lm_sh 7 σ9) r8) fun r11 =>
      lm_lt (lm_u σ9 0 7 ((σ9 0 7) + (r10 * r11))) fun σ12 =>
      lm_lt (lm_u σ12 0 6 ((σ12 0 6) + (1 : Int32))) fun σ13 => F σ13) = F σ' ∧ Cs σ' (s1 g).1 (x + (s1 g).2) := by
  obtain ⟨hR, hO, hKn, hs, h8, h16, ht, _⟩ := id hI
  obtain ⟨h6, h7, hr⟩ := id hO
  obtain ⟨hk, hv⟩ := hr (g 7) hq
  obtain ⟨⟨a1, a2⟩, ⟨b1, b2⟩, ⟨p1, p2⟩, s1'⟩ := hC.1
  have p1' : σ 0 6 = nI (g 7) := p1
  have k1 : lm_sh 1 σ 1 (g 7) = nI (g (57 + 2 * g 7)) := (b2 (g 7) hq).1
  rw [p1', c_key (by omega), lm_bd_some, k1]
  obtain ⟨σ1, l1, l2⟩ := c_lookUp hC hI hc hk
  have hS := lk_Sm g (g (57 + 2 * g 7))
  obtain ⟨⟨⟨A1, A2⟩, ⟨B1, B2⟩, ⟨P1, P2⟩, S1⟩, hA, hY, hM⟩ := l2
  rw [hS 7 (by omega) (by omega)] at P1
  rw [hS 8 (by omega) (by omega)] at P2
  have v1 : lm_sh 1 σ1 2 (g 7) = nI (g (58 + 2 * g 7)) := by
    have := (B2 (g 7) (by rw [hS 6 (by omega) (by omega)]; exact hq)).2
    rw [hS _ (by omega) (by omega)] at this
    exact this
  have w1 : lm_sh 7 σ1 2 (g (57 + 2 * g 7)) = nI (sm g (g (57 + 2 * g 7))) := by
    have := (hA _ hk).2.1
    rw [(hS.teq hR.1).sm] at this
    exact this
  rw [l1, lm_bd_some, P1, c_value (by omega), lm_bd_some, c_sum hk, lm_bd_some, v1, w1, P2, ev_mul, ev_add, lm_lt_eq]
  have e06 : (lm_u σ1 0 7 (nI (g 8 + g (58 + 2 * g 7) * sm g (g (57 + 2 * g 7))))) 0 6 + 1 = nI (g 7 + 1) := by rw [lu_ne _ _ (by omega), P1, nI_1]
  rw [e06, lm_lt_eq]
  have hcell : ∀ c, c ≠ 0 → (lm_u (lm_u σ1 0 7 (nI (g 8 + g (58 + 2 * g 7) * sm g (g (57 + 2 * g 7))))) 0 6 (nI (g 7 + 1))) c = σ1 c := fun c hc => by rw [lu_c _ _ _ hc, lu_c _ _ _ hc]
  have n1 : ∀ j, j ≠ 7 → j ≠ 8 → (s1 g).1 j = (lk g (g (57 + 2 * g 7))).1 j := fun j a b => by unfold s1; dsimp only; rw [un_ne _ _ a, un_ne _ _ b]
  have hT2 : Teq (lk g (g (57 + 2 * g 7))).1 (s1 g).1 := by
    refine ⟨n1 5 (by omega) (by omega), n1 3 (by omega) (by omega), n1 4 (by omega) (by omega), fun i hi => ⟨n1 _ (by omega) (by omega), n1 _ (by omega) (by omega)⟩⟩
  refine ⟨_, rfl, ⟨⟨?_, fun i hi => ?_⟩, ⟨?_, fun i hi => ?_⟩, ⟨?_, ?_⟩, fun j hj => ?_⟩, fun k hk => ?_, fun j hj => ?_, ?_⟩
  · rw [hcell 4 (by omega), n1 5 (by omega) (by omega)]; exact A1
  · rw [n1 5 (by omega) (by omega)] at hi
    rw [hcell 5 (by omega), hcell 6 (by omega), n1 _ (by omega) (by omega), n1 _ (by omega) (by omega)]
    exact A2 i hi
  · rw [hcell 1 (by omega), n1 6 (by omega) (by omega)]; exact B1
  · rw [n1 6 (by omega) (by omega)] at hi
    rw [hcell 2 (by omega), hcell 3 (by omega), n1 _ (by omega) (by omega), n1 _ (by omega) (by omega)]
    exact B2 i hi
  · rw [lu_same]
    unfold s1
    dsimp only
    rw [un_same]
  · rw [lu_ne _ _ (by omega), lu_same]
    unfold s1
    dsimp only
    rw [un_ne _ _ (by omega), un_same]
  · rw [hcell 15 (by omega), n1 j (by omega) (by omega)]; exact S1 j hj
  · rw [hT2.cnt, hT2.sm, hT2.fs, hcell 8 (by omega), hcell 9 (by omega), hcell 10 (by omega)]
    exact hA k hk
  · rw [hcell 16 (by omega), hY j hj, n1 _ (by omega) (by omega)]
    rfl
  · obtain ⟨q, l, f, c1, c2, c3, c4⟩ := hM
    refine ⟨q, l, f, by rw [hcell 11 (by omega)]; exact c1, by rw [n1 _ (by omega) (by omega)]; exact c2, fun i hi => ?_, fun i j hi hj => ?_⟩
    · rw [hcell 12 (by omega), hcell 13 (by omega), hcell 14 (by omega), n1 _ (by omega) (by omega)]
      exact c3 i hi
    · rw [n1 _ (by omega) (by omega), n1 _ (by omega) (by omega), n1 _ (by omega) (by omega), n1 _ (by omega) (by omega), n1 _ (by omega) (by omega), n1 _ (by omega) (by omega)]
      exact c4 i j hi hj
theorem c_walk_L {t A : Nat} : ∀ d n c (g : Nat → Nat) (σ : Hp) x1 acc x3, Cs σ g (A + acc) → In t c g → c + d ≤ 1000000 → x3 + d = x1 → x1 < 1000 → d < n → ∃ σ', F_X4_walk_L39 n σ (nI x1) (nI A) (nI x3) = some (nI (stD d g acc).2, σ') ∧ Cs σ' (stD d g acc).1 (A + (stD d g acc).2) := by
  intro d
  induction d with
  | zero =>
    intro n c g σ x1 acc x3 hC hI hc hx hx1 hn
    cases n with
    | zero => omega
    | succ n =>
      rw [F_X4_walk_L39, stD, lm_br, if_pos (nI_le (by omega) (by omega)), hC.2.2.1 2 (by omega), if_pos rfl, pk_sub (by omega), Nat.add_sub_cancel_left]
      exact ⟨_, rfl, hC⟩
  | succ d ih =>
    intro n c g σ x1 acc x3 hC hI hc hx hx1 hn
    cases n with
    | zero => omega
    | succ n =>
      obtain ⟨hR, hO, hKn, hs, h8, h16, ht, _⟩ := id hI
      obtain ⟨h6, h7, hr⟩ := id hO
      have b1 : lm_sh 1 σ 0 2 = nI (g 6) := hC.1.2.1.1
      have p1 : σ 0 6 = nI (g 7) := hC.1.2.2.1.1
      rw [F_X4_walk_L39, stD, lm_br, if_neg (nI_ge (by omega) (by omega)), c_size, lm_bd_some, b1, lm_br]
      by_cases q : g 7 < g 6
      · rw [if_pos q]
        have nq : ¬ nI (g 6) ≤ σ 0 6 := by rw [p1]; exact nI_ge q (by omega)
        rw [if_neg nq]
        obtain ⟨σ1, i1, i2⟩ := c_step hC hI (by omega) q (fun σ13 => F_X4_walk_L39 n σ13 (nI x1) (nI A) (nI x3 + 1))
        rw [i1, nI_1]
        rw [Nat.add_assoc] at i2
        exact ih n (c + 1) (s1 g).1 σ1 x1 (acc + (s1 g).2) (x3 + 1) i2 (s1_In hI (by omega) q) (by omega) (by omega) hx1 (by omega)
      · have nq : nI (g 6) ≤ σ 0 6 := by rw [p1]; exact nI_le (by omega) (by omega)
        rw [if_neg q, if_pos nq, hC.2.2.1 2 (by omega), if_pos rfl, pk_sub (by omega), Nat.add_sub_cancel_left]
        exact ⟨_, rfl, hC⟩
/-- class and reference stand for the same numbers -/
def Cn (σ : Hp) (g : Nat → Nat) : Prop := Cs σ g (g 11)
theorem stD_11 : ∀ d (g : Nat → Nat) n, (stD d g n).1 11 = g 11
  | 0, _, _ => rfl
  | d + 1, g, n => by
    rw [stD]
    split
    · rw [stD_11 d]
      unfold s1
      dsimp only
      rw [un_ne _ _ (by omega), un_ne _ _ (by omega), lk_11]
    · rfl
theorem c_walk {σ : Hp} {t c : Nat} (hC : Cn σ g) (hI : In t c g) {n : Nat} (h1 : 1 ≤ n) (h20 : n ≤ 20) (hc : c + n ≤ 1000000) (hq : g 7 < g 6) : ∃ σ', F_X4_walk σ (nI n) = some (nI (stp g n).2, σ') ∧ Cn σ' (stp g n).1 := by
  unfold F_X4_walk
  have b1 : lm_sh 1 σ 0 2 = nI (g 6) := hC.1.2.1.1
  have p1 : σ 0 6 = nI (g 7) := hC.1.2.2.1.1
  have h6 := hI.2.1.1
  have y2 : σ 16 2 = nI (g 11) := by rw [hC.2.2.1 2 (by omega), if_pos rfl]
  have n1 : ¬ nI n < 1 := by rw [ev_k1]; exact nI_nlt h1 (by omega)
  have n20 : nI n ≤ 20 := by rw [ev_k20]; exact nI_le h20 (by omega)
  rw [lm_br, if_neg n1, lm_br, if_pos n20, c_size, lm_bd_some, b1, p1, lm_br, if_pos (nI_lt hq (by omega)), y2]
  obtain ⟨σ', i1, i2⟩ := c_walk_L (A := g 11) n 1000 c g σ n 0 0 hC hI hc (by omega) (by omega) (by omega)
  refine ⟨σ', i1, ?_⟩
  obtain ⟨hR, hO, _⟩ := stD_In n c g 0 hI hc
  have := Cs_11 i2 hR hO ((stD n g 0).1 11 + (stD n g 0).2)
  unfold Cn stp
  dsimp only
  rw [un_same, stD_11]
  rw [stD_11] at this
  exact this
end CW

