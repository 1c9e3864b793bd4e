/-! the class: order, room, looking up, stepping -/
/-- what the class's order is -/
def aC (g : Nat → Nat) (l f : Nat → Nat) (j k : Nat) : Bool := decide (Ra g l f j < Ra g l f k)
theorem aC_ah {g l f : Nat → Nat} {q : Nat} (hq : q ≤ g 16) (h16 : g 16 ≤ 1000000) (hK : Kn g) (h1 : g 1 ≤ 2) (hb : ∀ k, k < 10 → 0 < g (97 + k) → l k ≤ q ∧ f k ≤ q) (ho : ∀ j k, j < 10 → k < 10 → 0 < g (97 + j) → 0 < g (97 + k) → (l j < l k ↔ g (107 + j) < g (107 + k)) ∧ (f j < f k ↔ g (117 + j) < g (117 + k))) {j k : Nat} (hj : j < 10) (hk : k < 10) (kj : 0 < g (97 + j)) (kk : 0 < g (97 + k)) : aC g l f j k = ah g j k := by
  obtain ⟨o1, o2⟩ := ho j k hj hk kj kk
  have b1 := hb j hj kj
  have b2 := hb k hk kk
  have u1 := (hK j hj).1
  have u2 := (hK k hk).1
  unfold aC ah Ra
  by_cases r2 : g 1 = 2
  · rw [if_pos r2, if_pos r2, if_pos r2]
    exact decide_eq_decide.mpr o2
  · rw [if_neg r2, if_neg r2, if_neg r2]
    by_cases r1 : g 1 = 1
    · rw [if_pos r1, if_pos r1, if_pos r1, ← Bool.decide_and, ← Bool.decide_or]
      apply decide_eq_decide.mpr
      rw [← o1]
      constructor
      · intro h
        rcases Nat.lt_trichotomy (g (97 + j)) (g (97 + k)) with c | c | c
        · exact Or.inl c
        · rw [c] at h
          exact Or.inr ⟨c, by omega⟩
        · omega
      · intro h
        rcases h with c | ⟨c, d⟩
        · omega
        · rw [c]
          omega
    · rw [if_neg r1, if_neg r1, if_neg r1]
      exact decide_eq_decide.mpr o1
section CM
variable {g : Nat → Nat}
theorem c_cmp {a b : Nat} (ha : a < 9223372036854775808) (hb : b < 9223372036854775808) : ((0 : Int32) ≤ lg_cmp (lN a) (lN b)) ↔ b ≤ a := by
  rw [lg_cmp_ge]
  exact pk_lLE hb ha
theorem Ra_lt {l f : Nat → Nat} {k : Nat} (bu : g (97 + k) < 1073741824) (bl : l k < 1073741824) (bf : f k < 1073741824) : Ra g l f k < 9223372036854775808 := by
  unfold Ra
  split
  · omega
  · split <;> omega
theorem c_firstOut_L {τ : Hp} {l f : Nat → Nat} (h1 : g 1 ≤ 2) (hu : ∀ k, k < 10 → τ 1 k = nI (g (97 + k)) ∧ g (97 + k) < 1073741824) (hm : ∀ k, k < 10 → 0 < g (97 + k) → τ 2 k = nI (l k) ∧ τ 3 k = nI (f k) ∧ l k < 1073741824 ∧ f k < 1073741824) {sp : Nat} {spi : Int32} (hsp : (sp < 10 ∧ spi = nI sp) ∨ (10 ≤ sp ∧ spi = -1)) : ∀ d n k b, k + d = 10 → d < n → b ≤ 10 → (b < 10 → 0 < g (97 + b)) → F_X2_firstOut_L5 n τ (nI (g 1)) spi (nk (-1) b) (nI k) = some (nk (-1) (pD (knb g) (aC g l f) sp d k b)) := by
  intro d
  induction d with
  | zero =>
    intro n k b hr hn hb hb2
    cases n with
    | zero => omega
    | succ n =>
      have k10 : (10 : Int32) ≤ nI k := by rw [ev_k10]; exact nI_le (by omega) (by omega)
      rw [F_X2_firstOut_L5, pD, lm_br, if_pos k10]
  | succ d ih =>
    intro n k b hr hn hb hb2
    cases n with
    | zero => omega
    | succ n =>
      rw [F_X2_firstOut_L5, pD]
      have hks : (nI k = spi) ↔ k = sp := by
        rcases hsp with ⟨h1, h2⟩ | ⟨h1, h2⟩
        · rw [h2]
          exact nI_eq (by omega) (by omega)
        · rw [h2]
          constructor
          · intro e
            exfalso
            have : nI k < 0 := by rw [e]; decide
            exact nI_pos (by omega) this
          · intro e
            omega
      have k10 : ¬ (10 : Int32) ≤ nI k := by rw [ev_k10]; exact nI_ge (by omega) (by omega)
      have e1 : nI k + 1 = nI (k + 1) := nI_1 k
      obtain ⟨u1, u2⟩ := hu k (by omega)
      rw [lm_br, if_neg k10, ev_gi (by omega) (by omega), ev_cl (by omega), u1, lm_br, e1]
      by_cases h : 0 < g (97 + k)
      · have hkn : knb g k = true := by simp [knb, h]
        rw [if_neg (by rw [show (0 : Int32) = nI 0 from rfl]; exact nI_ge h (by omega)), lm_br]
        by_cases h0 : k = sp
        · rw [if_pos (hks.mpr h0), if_neg (by simp [h0])]
          exact ih n (k + 1) b (by omega) (by omega) hb hb2
        · rw [if_neg (fun e => h0 (hks.mp e)), lm_br]
          obtain ⟨m1, m2, m3, m4⟩ := hm k (by omega) h
          by_cases h2 : b < 10
          · have n0 : ¬ nk (-1) b = -1 := by
              rw [nk, if_pos h2]
              intro e
              have : nI b < 0 := by rw [e]; decide
              exact nI_pos (by omega) this
            obtain ⟨v1, v2⟩ := hu b h2
            obtain ⟨w1, w2, w3, w4⟩ := hm b h2 (hb2 h2)
            rw [if_neg n0, show nk (-1) b = nI b from if_pos h2, c_rank (by omega) h1 u1 m1 m2 u2 m3 m4, lm_bd_some, c_rank h2 h1 v1 w1 w2 v2 w3 w4, lm_bd_some, lm_br]
            have hc := c_cmp (Ra_lt (g := g) u2 m3 m4) (Ra_lt (g := g) v2 w3 w4)
            by_cases h3 : aC g l f k b = true
            · have h3' : Ra g l f k < Ra g l f b := by simpa [aC] using h3
              rw [if_neg (fun q => by have := hc.mp q; omega), if_pos ⟨h0, hkn, Or.inr h3⟩]
              have := ih n (k + 1) k (by omega) (by omega) (by omega) (fun _ => h)
              rw [nk, if_pos (by omega)] at this
              exact this
            · have h3' : ¬ Ra g l f k < Ra g l f b := by simpa [aC] using h3
              rw [if_pos (hc.mpr (by omega)), if_neg (fun q => q.2.2.elim (by omega) h3)]
              have := ih n (k + 1) b (by omega) (by omega) hb hb2
              rw [show nk (-1) b = nI b from if_pos h2] at this
              exact this
          · have n0 : nk (-1) b = -1 := by rw [nk, if_neg h2]
            rw [if_pos n0, if_pos ⟨h0, hkn, Or.inl (by omega)⟩]
            have := ih n (k + 1) k (by omega) (by omega) (by omega) (fun _ => h)
            rw [nk, if_pos (by omega)] at this
            exact this
      · have hkn : ¬ knb g k = true := by simp [knb, h]
        rw [if_pos (by rw [show (0 : Int32) = nI 0 from rfl]; exact nI_le (by omega) (by omega)), if_neg (fun q => hkn q.2.1)]
        exact ih n (k + 1) b (by omega) (by omega) hb hb2
/-- what of the memory the order wants -/
theorem c_firstOut {σ : Hp} (hC : Cm σ g) (hK : Kn g) (h16 : g 16 ≤ 1000000) (h1 : g 1 ≤ 2) {sp : Nat} {spi : Int32} (hsp : (sp < 10 ∧ spi = nI sp) ∨ (10 ≤ sp ∧ spi = -1)) : F_X2_firstOut (lm_sh 11 σ) (nI (g 1)) spi = some (nk (-1) (fir g sp)) := by
  obtain ⟨q, l, f, c1, c2, c3, c4⟩ := hC
  unfold F_X2_firstOut
  have := c_firstOut_L (g := g) (τ := lm_sh 11 σ) (l := l) (f := f) h1 (fun k hk => ⟨(c3 k hk).1, by have := (hK k hk).1; omega⟩) (fun k hk kn => by
    obtain ⟨d1, d2, d3, d4⟩ := (c3 k hk).2 kn
    exact ⟨d1, d2, by omega, by omega⟩) hsp 10 1000 0 10 (by omega) (by omega) (by omega) (by omega)
  refine this.trans ?_
  unfold fir
  rw [pD_congr (knb g) (aC g l f) (ah g) sp (fun j k hj hk kj kk => aC_ah c2 h16 hK h1 (fun i hi kn => by
    obtain ⟨d1, d2, d3, d4⟩ := (c3 i hi).2 kn
    exact ⟨d3, d4⟩) c4 hj hk (by simpa [knb] using kj) (by simpa [knb] using kk)) 10 0 10 (by omega) (by omega) (by omega)]
theorem c_weightTogether_L {σ : Hp} (hu : ∀ k, k < 10 → σ 12 k = nI (g (97 + k)) ∧ g (97 + k) < 1073741824) (ha : ∀ k, k < 10 → σ 8 k = nI (cnt g k)) : ∀ d n k acc, k + d = 10 → d < n → F_X4_weightTogether_L4 n σ (nI acc) (nI k) = some (nI (acc + wD g d k)) := by
  intro d
  induction d with
  | zero =>
    intro n k acc hr hn
    cases n with
    | zero => omega
    | succ n =>
      have k10 : (10 : Int32) ≤ nI k := by rw [ev_k10]; exact nI_le (by omega) (by omega)
      rw [F_X4_weightTogether_L4, wD, lm_br, if_pos k10]
      rfl
  | succ d ih =>
    intro n k acc hr hn
    cases n with
    | zero => omega
    | succ n =>
      have k10 : ¬ (10 : Int32) ≤ nI k := by rw [ev_k10]; exact nI_ge (by omega) (by omega)
      obtain ⟨u1, u2⟩ := hu k (by omega)
      rw [F_X4_weightTogether_L4, wD, lm_br, if_neg k10, c_holds (τ := lm_sh 11 σ) (by omega) (by omega) u1, lm_bd_some, nI_1]
      by_cases h : 0 < g (97 + k)
      · rw [if_pos h, if_pos h, lm_br, if_neg (by decide), c_weight (τ := lm_sh 7 σ) (by omega) (ha k (by omega)), lm_bd_some, ev_add, ih n (k + 1) _ (by omega) (by omega)]
        congr 2
        omega
      · rw [if_neg h, if_neg h, lm_br, if_pos (by decide), ih n (k + 1) _ (by omega) (by omega)]
        congr 2
        omega
theorem c_weightTogether {σ : Hp} (hu : ∀ k, k < 10 → σ 12 k = nI (g (97 + k)) ∧ g (97 + k) < 1073741824) (ha : ∀ k, k < 10 → σ 8 k = nI (cnt g k)) : F_X4_weightTogether σ = some (nI (wei g)) := by
  unfold F_X4_weightTogether
  refine (c_weightTogether_L hu ha 10 1000 0 0 (by omega) (by omega)).trans ?_
  rw [Nat.zero_add]
  rfl
theorem Cm_lose {σ : Hp} (h : Cm σ g) {k : Nat} (hk : k < 10) : Cm (lm_sb σ 11 4 (lm_u (lm_sh 11 σ) 1 k (nI 0))) (un g (97 + k) 0) := by
  obtain ⟨q, l, f, c1, c2, c3, c4⟩ := h
  refine ⟨q, l, f, c1, by rw [un_ne _ _ (by omega)]; exact c2, fun i hi => ?_, fun i j hi hj ki kj => ?_⟩
  · obtain ⟨d1, d2⟩ := c3 i hi
    by_cases e : i = k
    · subst e
      rw [un_same]
      refine ⟨?_, fun q => by omega⟩
      show lm_u (lm_sh 11 σ) 1 i (nI 0) 1 i = nI 0
      exact lu_same _ _ _ _
    · rw [un_ne _ _ (by omega)]
      refine ⟨?_, fun q => d2 q⟩
      show lm_u (lm_sh 11 σ) 1 k (nI 0) 1 i = _
      rw [lu_ne _ _ e]
      exact d1
  · have hi' : i ≠ k := by
      intro e
      subst e
      rw [un_same] at ki
      omega
    have hj' : j ≠ k := by
      intro e
      subst e
      rw [un_same] at kj
      omega
    rw [un_ne _ _ (by omega)] at ki kj
    rw [un_ne _ _ (by omega), un_ne _ _ (by omega), un_ne _ _ (by omega), un_ne _ _ (by omega)]
    exact c4 i j hi hj ki kj
/-- the cells of the memory alone have moved -/
def Mf (σ σ' : Hp) : Prop := ∀ c, ¬ (11 ≤ c ∧ c ≤ 14) → σ' c = σ c
theorem Mf.sb {σ σ' τ : Hp} (h : Mf σ σ') : Mf σ (lm_sb σ' 11 4 τ) := fun c hc => by
  unfold lm_sb
  rw [if_neg (by omega)]
  exact h c hc
theorem Mf.rf {σ : Hp} : Mf σ σ := fun _ _ => rfl
theorem Mf.trans {σ σ' σ'' : Hp} (h : Mf σ σ') (h2 : Mf σ' σ'') : Mf σ σ'' := fun c hc => by rw [h2 c hc, h c hc]
theorem Ct_Mf {σ σ' : Hp} {g' : Nat → Nat} (h : Ct σ g) (hR : Rin g) (hO : Rou g) (hM : ∀ c, c < 7 ∨ c = 15 → σ' c = σ c) (hS : Sm g g') : Ct σ' g' := by
  obtain ⟨⟨a1, a2⟩, ⟨b1, b2⟩, ⟨p1, p2⟩, s1⟩ := h
  have h5 := hR.1
  have h6 := hO.1
  refine ⟨⟨?_, fun i hi => ?_⟩, ⟨?_, fun i hi => ?_⟩, ⟨?_, ?_⟩, fun j hj => ?_⟩
  · rw [hM 4 (by omega), hS 5 (by omega) (by omega)]; exact a1
  · rw [hS 5 (by omega) (by omega)] at hi
    rw [hM 5 (by omega), hM 6 (by omega), hS _ (by omega) (by omega), hS _ (by omega) (by omega)]
    exact a2 i hi
  · rw [hM 1 (by omega), hS 6 (by omega) (by omega)]; exact b1
  · rw [hS 6 (by omega) (by omega)] at hi
    rw [hM 2 (by omega), hM 3 (by omega), hS _ (by omega) (by omega), hS _ (by omega) (by omega)]
    exact b2 i hi
  · rw [hM 0 (by omega), hS 7 (by omega) (by omega)]; exact p1
  · rw [hM 0 (by omega), hS 8 (by omega) (by omega)]; exact p2
  · rw [hM 15 (by omega), hS j (by omega) (by omega)]; exact s1 j hj
theorem Ca_Mf {σ σ' : Hp} {g' : Nat → Nat} (h : Ca σ g) (h5 : g 5 ≤ 20) (hM : ∀ c, 8 ≤ c ∧ c ≤ 10 → σ' c = σ c) (hS : Sm g g') : Ca σ' g' := by
  intro k hk
  have hT := hS.teq h5
  rw [hT.cnt, hT.sm, hT.fs, hM 8 (by omega), hM 9 (by omega), hM 10 (by omega)]
  exact h k hk
end CM

