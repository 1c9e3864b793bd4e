/-! the class: making room, looking up, steps -/
theorem wD_only {g : Nat → Nat} {sp : Nat} (h : ∀ j, j < 10 → j ≠ sp → ¬ 0 < g (97 + j)) : ∀ d k, k + d = 10 → wD g d k ≤ (if k ≤ sp ∧ sp < 10 ∧ 0 < g (97 + sp) then 2 + cnt g sp else 0)
  | 0, k, hk => by rw [wD]; omega
  | d + 1, k, hk => by
    have := wD_only h d (k + 1) (by omega)
    rw [wD]
    by_cases e : k = sp
    · subst e
      rw [if_neg (by omega)] at this
      by_cases q : 0 < g (97 + k)
      · rw [if_pos q, if_pos ⟨by omega, by omega, q⟩]
        omega
      · rw [if_neg q, if_neg (fun z => q z.2.2)]
        omega
    · rw [if_neg (h k (by omega) e)]
      by_cases q : k + 1 ≤ sp ∧ sp < 10 ∧ 0 < g (97 + sp)
      · rw [if_pos q] at this
        rw [if_pos ⟨by omega, q.2⟩]
        omega
      · rw [if_neg q] at this
        omega
theorem kD_pos {g : Nat → Nat} {j : Nat} (hj : 0 < g (97 + j)) (d k : Nat) (h1 : k ≤ j) (h2 : j < k + d) : 0 < kD g d k := by
  have := kD_lose hj d k h1 h2
  omega
theorem Kn_lose {g : Nat → Nat} (h : Kn g) {j : Nat} (hj : j < 10) : Kn (un g (97 + j) 0) := by
  intro i hi
  obtain ⟨a1, a2⟩ := h i hi
  rw [un_ne _ _ (show 16 ≠ 97 + j by omega), un_ne _ _ (show 107 + i ≠ 97 + j by omega), un_ne _ _ (show 117 + i ≠ 97 + j by omega)]
  by_cases e : i = j
  · subst e
    rw [un_same]
    exact ⟨by omega, fun q => by omega⟩
  · rw [un_ne _ _ (by omega)]
    exact ⟨a1, a2⟩
section CR
variable {g : Nat → Nat}
theorem c_makeRoom_L {sp : Nat} {spi : Int32} (hsp : (sp < 10 ∧ spi = nI sp) ∨ (10 ≤ sp ∧ spi = -1)) : ∀ d n (g : Nat → Nat) (σ : Hp) x2, Cm σ g → (∀ k, k < 10 → σ 8 k = nI (cnt g k)) → σ 15 0 = nI (g 0) → σ 15 1 = nI (g 1) → Kn g → g 16 ≤ 1000000 → g 1 ≤ 2 → g 0 ≤ 60 → g 5 ≤ 20 → (sp < 10 → 0 < g (97 + sp) → 2 + cnt g sp ≤ g 0) → x2 + kno g ≤ 10 → kno g ≤ d → d < n →
    ∃ σ', F_X4_makeRoom_L7 n σ spi (nI x2) (nI (wei g)) = some (nI (mrD sp d g x2).2, σ') ∧ Cm σ' (mrD sp d g x2).1 ∧ (∀ c, ¬ (11 ≤ c ∧ c ≤ 14) → c ≠ 16 → σ' c = σ c) ∧ ∀ j, σ' 16 j = if j = 3 then σ 16 3 + nI (mrD sp d g x2).2 else σ 16 j := by
  intro d
  induction d with
  | zero =>
    intro n g σ x2 hC h8 h15 h151 hK h16 h1 h0 h5 hA hx hk hn
    cases n with
    | zero => omega
    | succ n =>
      have hno : ∀ j, j < 10 → ¬ 0 < g (97 + j) := fun j hj => kD_none 10 0 (by unfold kno at hk; omega) j (by omega) (by omega)
      have hw : wei g ≤ 0 := by
        have := wD_only (g := g) (sp := 10) (fun j hj _ => hno j hj) 10 0 (by omega)
        rw [if_neg (by omega)] at this
        exact this
      rw [F_X4_makeRoom_L7, mrD, lm_br]
      have x10 : ((10 : Int32) ≤ nI x2) ↔ 10 ≤ x2 := by rw [ev_k10]; exact nI_leI (by omega) (by omega)
      have res : ∃ σ', (lm_lt (lm_u σ 16 3 ((σ 16 3) + nI x2)) fun σ3 => some (nI x2, σ3)) = some (nI x2, σ') ∧ Cm σ' g ∧ (∀ c, ¬ (11 ≤ c ∧ c ≤ 14) → c ≠ 16 → σ' c = σ c) ∧ ∀ j, σ' 16 j = if j = 3 then σ 16 3 + nI x2 else σ 16 j := by
        refine ⟨_, rfl, ?_, fun c _ hc => lu_c _ _ _ hc, fun j => ?_⟩
        · obtain ⟨q, l, f, c1, c2, c3, c4⟩ := hC
          exact ⟨q, l, f, c1, c2, c3, c4⟩
        · by_cases e : j = 3
          · rw [if_pos e, e, lu_same]
          · rw [if_neg e, lu_ne _ _ e]
      by_cases q : 10 ≤ x2
      · rw [if_pos (x10.mpr q)]
        exact res
      · rw [if_neg (fun z => q (x10.mp z)), lm_br, h15, if_pos (nI_le (by omega) (by omega))]
        exact res
  | succ d ih =>
    intro n g σ x2 hC h8 h15 h151 hK h16 h1 h0 h5 hA hx hk hn
    cases n with
    | zero => omega
    | succ n =>
      obtain ⟨f1, f2, f3⟩ := fir_spec g sp
      have hw220 : wei g ≤ 220 := wD_le h5 10 0
      rw [F_X4_makeRoom_L7, mrD, lm_br]
      have x10 : ((10 : Int32) ≤ nI x2) ↔ 10 ≤ x2 := by rw [ev_k10]; exact nI_leI (by omega) (by omega)
      have res : ∃ σ', (lm_lt (lm_u σ 16 3 ((σ 16 3) + nI x2)) fun σ3 => some (nI x2, σ3)) = some (nI x2, σ') ∧ Cm σ' g ∧ (∀ c, ¬ (11 ≤ c ∧ c ≤ 14) → c ≠ 16 → σ' c = σ c) ∧ ∀ j, σ' 16 j = if j = 3 then σ 16 3 + nI x2 else σ 16 j := by
        refine ⟨_, rfl, ?_, fun c _ hc => lu_c _ _ _ hc, fun j => ?_⟩
        · obtain ⟨q, l, f, c1, c2, c3, c4⟩ := hC
          exact ⟨q, l, f, c1, c2, c3, c4⟩
        · by_cases e : j = 3
          · rw [if_pos e, e, lu_same]
          · rw [if_neg e, lu_ne _ _ e]
      by_cases c : fir g sp < 10 ∧ g 0 < wei g
      · obtain ⟨hf, hb⟩ := c
        obtain ⟨f4, f5⟩ := f2 hf
        have kp := kD_pos f5 10 0 (by omega) (by omega)
        have kl := kD_lose f5 10 0 (by omega) (by omega)
        unfold kno at hx hk
        rw [if_neg (fun z => by have := x10.mp z; omega), if_pos ⟨hf, hb⟩, lm_br, h15, if_neg (nI_ge hb (by omega)), h151, c_firstOut hC hK h16 h1 hsp, lm_bd_some, show nk (-1) (fir g sp) = nI (fir g sp) from if_pos hf]
        rw [c_weight (τ := lm_sh 7 σ) hf (h8 _ hf), lm_bd_some, c_lose hf, lm_bd_some, lm_lt_eq, nI_1]
        have hwl := wD_lose h5 f5 10 0 (by omega) (by omega)
        have ew : nI (wei g) - nI (2 + cnt g (fir g sp)) = nI (wei (un g (97 + fir g sp) 0)) := by
          rw [pk_sub (by unfold wei; omega)]
          congr 1
          unfold wei
          omega
        rw [ew]
        have hT : Teq g (un g (97 + fir g sp) 0) := Teq_un 0 h5 (by omega)
        have hMf : Mf σ (lm_sb σ 11 4 (lm_u (lm_sh 11 σ) 1 (fir g sp) (nI 0))) := Mf.rf.sb
        obtain ⟨σ', i1, i2, i3, i4⟩ := ih n (un g (97 + fir g sp) 0) (lm_sb σ 11 4 (lm_u (lm_sh 11 σ) 1 (fir g sp) (nI 0))) (x2 + 1) (Cm_lose hC hf) (fun k hk => by rw [hT.cnt, hMf 8 (by omega)]; exact h8 k hk) (by rw [hMf 15 (by omega), un_ne _ _ (by omega)]; exact h15) (by rw [hMf 15 (by omega), un_ne _ _ (by omega)]; exact h151) (Kn_lose hK hf) (by rw [un_ne _ _ (by omega)]; exact h16) (by rw [un_ne _ _ (by omega)]; exact h1) (by rw [un_ne _ _ (by omega)]; exact h0) (by rw [un_ne _ _ (by omega)]; exact h5) (fun a b => by
            rw [un_ne _ _ (by omega)] at b
            rw [un_ne _ _ (by omega), hT.cnt]
            exact hA a b) (by unfold kno; omega) (by unfold kno; omega) (by omega)
        refine ⟨σ', i1, i2, fun e he1 he2 => by rw [i3 e he1 he2, hMf e he1], fun j => ?_⟩
        rw [i4 j, hMf 16 (by omega)]
      · rw [if_neg c]
        by_cases q : 10 ≤ x2
        · rw [if_pos (x10.mpr q)]
          exact res
        · have hwb : wei g ≤ g 0 := by
            by_cases hf : fir g sp < 10
            · omega
            · have := wD_only (g := g) (sp := sp) (f3 (by omega)) 10 0 (by omega)
              by_cases z : 0 ≤ sp ∧ sp < 10 ∧ 0 < g (97 + sp)
              · rw [if_pos z] at this
                have := hA z.2.1 z.2.2
                unfold wei
                omega
              · rw [if_neg z] at this
                unfold wei
                omega
          rw [if_neg (fun z => q (x10.mp z)), lm_br, h15, if_pos (nI_le hwb (by omega))]
          exact res
theorem Kn_Sm {g' : Nat → Nat} (hR : Rin g) (hS : Sm g g') : g' 5 ≤ 20 := by rw [hS 5 (by omega) (by omega)]; exact hR.1
theorem c_makeRoom {σ : Hp} {x : Nat} (hC : Cs σ g x) (hR : Rin g) (hO : Rou g) (hK : Kn g) (h16 : g 16 ≤ 1000000) (h1 : g 1 ≤ 2) (h0 : g 0 ≤ 60) {sp : Nat} {spi : Int32} (hsp : (sp < 10 ∧ spi = nI sp) ∨ (10 ≤ sp ∧ spi = -1)) (hA : sp < 10 → 0 < g (97 + sp) → 2 + cnt g sp ≤ g 0) : ∃ σ', F_X4_makeRoom σ spi = some (nI (mr g sp).2, σ') ∧ Cs σ' (mr g sp).1 x := by
  obtain ⟨hT, ha, hy, hm⟩ := hC
  unfold F_X4_makeRoom
  have hu : ∀ k, k < 10 → σ 12 k = nI (g (97 + k)) ∧ g (97 + k) < 1073741824 := fun k hk => by
    obtain ⟨q, l, f, c1, c2, c3, c4⟩ := hm
    exact ⟨(c3 k hk).1, by have := (hK k hk).1; omega⟩
  rw [c_weightTogether hu (fun k hk => (ha k hk).1), lm_bd_some]
  have kk : kno g ≤ 10 := kD_le g 10 0
  obtain ⟨σ', i1, i2, i3, i4⟩ := c_makeRoom_L hsp 10 1000 g σ 0 hm (fun k hk => (ha k hk).1) (hT.2.2.2 0 (by omega)) (hT.2.2.2 1 (by omega)) hK h16 h1 h0 hR.1 hA (by omega) kk (by omega)
  have hS : Sm g (mr g sp).1 := Sm.rf.mr sp
  refine ⟨σ', i1, Ct_Mf hT hR hO (fun c hc => i3 c (by omega) (by omega)) hS, Ca_Mf ha hR.1 (fun c hc => i3 c (by omega) (by omega)) hS, fun j hj => ?_, ?_⟩
  · rw [i4 j]
    by_cases e : j = 3
    · subst e
      rw [if_pos rfl, hy 3 (by omega), if_neg (by omega), if_neg (by omega), ev_add]
      unfold mr
      dsimp only
      rw [un_same, mrD_other _ _ _ _ (by omega)]
    · rw [if_neg e, hy j hj]
      by_cases e2 : j = 2
      · rw [if_pos e2, if_pos e2]
      · rw [if_neg e2, if_neg e2, mr_other (by omega) (by omega)]
  · obtain ⟨q, l, f, c1, c2, c3, c4⟩ := i2
    unfold mr
    dsimp only
    refine ⟨q, l, f, c1, by rw [un_ne _ _ (by omega)]; exact c2, fun k hk => ?_, fun j k hj hk => ?_⟩
    · rw [un_ne _ _ (by omega)]
      exact c3 k hk
    · rw [un_ne _ _ (by omega), un_ne _ _ (by omega), un_ne _ _ (by omega), un_ne _ _ (by omega), un_ne _ _ (by omega), un_ne _ _ (by omega)]
      exact c4 j k hj hk
end CR

