/-! the law's first -/
section LF1
variable {g : Nat → Nat}
theorem sp_iff {sp : Nat} {spi : Int32} (hsp : (sp < 10 ∧ spi = nI sp) ∨ (10 ≤ sp ∧ spi = -1)) {k : Nat} (hk : k < 10) : (nI k = spi) ↔ k = sp := by
  rcases hsp with ⟨h1, h2⟩ | ⟨h1, h2⟩
  · rw [h2]
    exact nI_eq (by omega) (by omega)
  · constructor
    · intro z
      have := nI_pos (n := k) (by omega)
      rw [z, h2] at this
      exact absurd (by decide) this
    · intro z
      omega
theorem nk_lt {b : Nat} (h : b < 10) : nk (-1) b = nI b := if_pos h
theorem nk_10 : nk (-1) 10 = (-1 : Int32) := if_neg (by omega)
theorem l_firstQ_L {u fq fl fn : Nat → Int32} {Mq : List Nat} (hu : u 1 = nI (g 1)) (h1 : g 1 = 2) (hq : lr_R fq Mq) (hO : Mq.Pairwise (fun a b => g (117 + a) < g (117 + b))) {sp : Nat} {spi : Int32} (hsp : (sp < 10 ∧ spi = nI sp) ∨ (10 ≤ sp ∧ spi = -1)) : ∀ d n i b, i + d = Mq.length → d < n → (b = 10 ∨ b ∈ Mq.take i) → F_L_first_L6 n (lw_f4 u fq fl fn) spi (nk (-1) b) (nI i) = some (nk (-1) (rb (ah g) sp (Mq.drop i) b)) := by
  have h10 := hq.1
  intro d
  induction d with
  | zero =>
    intro n i b hi hn hb
    cases n with
    | zero => omega
    | succ n =>
      rw [F_L_first_L6, show lw_f4 u fq fl fn 1 = fq from rfl, l_many hq, lm_bd_some, lm_br, if_pos (nI_le (by omega) (by omega)), List.drop_of_length_le (by omega)]
      rfl
  | succ d ih =>
    intro n i b hi hn hb
    cases n with
    | zero => omega
    | succ n =>
      have p : i < Mq.length := by omega
      obtain ⟨e1, e2⟩ := lr_some hq p
      have hs := sp_iff hsp e2
      have m1 : Mq[i] ∈ Mq.take (i + 1) := by rw [List.take_add_one, List.getElem?_eq_getElem p]; exact List.mem_append_right _ (List.mem_singleton.mpr rfl)
      have m2 : b = 10 ∨ b ∈ Mq.take (i + 1) := by
        rcases hb with hb | hb
        · exact Or.inl hb
        · rw [List.take_add_one]
          exact Or.inr (List.mem_append_left _ hb)
      rw [F_L_first_L6, show lw_f4 u fq fl fn 1 = fq from rfl, show lw_f4 u fq fl fn 0 1 = nI 2 by rw [← h1]; exact hu, l_many hq, lm_bd_some, lm_br, if_neg (nI_ge (by omega) (by omega)), lm_br, if_neg (by decide), ev_gi (by omega) (by omega), ev_cl (by omega), e1, nI_1, List.drop_eq_getElem_cons p, rb, lm_br]
      rcases hb with hb | hb
      · subst hb
        rw [nk_10, if_pos (by decide), lm_br, ← nk_10]
        by_cases q : Mq[i] = sp
        · rw [if_pos (hs.mpr q), if_neg (fun z => z.1 q)]
          exact ih n (i + 1) 10 (by omega) (by omega) m2
        · rw [if_neg (fun z => q (hs.mp z)), if_pos ⟨q, Or.inl (Nat.le_refl _)⟩, ← nk_lt e2]
          exact ih n (i + 1) _ (by omega) (by omega) (Or.inr m1)
      · have b10 : b < 10 := hq.2.1 b (List.mem_of_mem_take hb)
        have lt := pw_take (t := fun a => g (117 + a)) p hO b hb
        have na : ¬ ah g Mq[i] b = true := by
          unfold ah
          rw [if_pos h1, decide_eq_true_eq]
          omega
        rw [nk_lt b10, if_neg (nI_pos (by omega)), lm_br, if_pos (by decide), lm_br, ite_self, if_neg (fun z => by
          rcases z.2 with z | z
          · omega
          · exact na z), ← nk_lt b10]
        exact ih n (i + 1) b (by omega) (by omega) m2
theorem l_firstL_L {u fq fl fn : Nat → Int32} {Mq Ml : List Nat} (hu : u 1 = nI (g 1)) (h1 : g 1 = 0 ∨ g 1 = 1) (hq : lr_R fq Mq) (hl : lr_R fl Ml) (hlen : Mq.length = Ml.length) (hO : Ml.Pairwise (fun a b => g (107 + a) < g (107 + b))) (hn : ∀ k ∈ Ml, fn k = nI (g (97 + k)) ∧ g (97 + k) < 1073741824) {sp : Nat} {spi : Int32} (hsp : (sp < 10 ∧ spi = nI sp) ∨ (10 ≤ sp ∧ spi = -1)) : ∀ d n i b, i + d = Ml.length → d < n → (b = 10 ∨ b ∈ Ml.take i) → F_L_first_L6 n (lw_f4 u fq fl fn) spi (nk (-1) b) (nI i) = some (nk (-1) (rb (ah g) sp (Ml.drop i) b)) := by
  have h10 := hl.1
  intro d
  induction d with
  | zero =>
    intro n i b hi hn hb
    cases n with
    | zero => omega
    | succ n =>
      rw [F_L_first_L6, show lw_f4 u fq fl fn 1 = fq from rfl, l_many hq, lm_bd_some, lm_br, if_pos (nI_le (by omega) (by omega)), List.drop_of_length_le (by omega)]
      rfl
  | succ d ih =>
    intro n i b hi hn' hb
    cases n with
    | zero => omega
    | succ n =>
      have p : i < Ml.length := by omega
      obtain ⟨e1, e2⟩ := lr_some hl p
      have hs := sp_iff hsp e2
      have m1 : Ml[i] ∈ Ml.take (i + 1) := by rw [List.take_add_one, List.getElem?_eq_getElem p]; exact List.mem_append_right _ (List.mem_singleton.mpr rfl)
      have m2 : b = 10 ∨ b ∈ Ml.take (i + 1) := by
        rcases hb with hb | hb
        · exact Or.inl hb
        · rw [List.take_add_one]
          exact Or.inr (List.mem_append_left _ hb)
      have n2 : ¬ nI (g 1) = (2 : Int32) := by
        rcases h1 with h1 | h1 <;> rw [h1] <;> decide
      rw [F_L_first_L6, show lw_f4 u fq fl fn 1 = fq from rfl, show lw_f4 u fq fl fn 2 = fl from rfl, show lw_f4 u fq fl fn 3 = fn from rfl, show lw_f4 u fq fl fn 0 1 = nI (g 1) from hu, l_many hq, lm_bd_some, lm_br, if_neg (nI_ge (by omega) (by omega)), lm_br, if_pos n2, ev_gi (by omega) (by omega), ev_cl (by omega), e1, nI_1, List.drop_eq_getElem_cons p, rb, lm_br]
      rcases hb with hb | hb
      · subst hb
        rw [nk_10, if_pos (by decide), lm_br, ← nk_10]
        by_cases q : Ml[i] = sp
        · rw [if_pos (hs.mpr q), if_neg (fun z => z.1 q)]
          exact ih n (i + 1) 10 (by omega) (by omega) m2
        · rw [if_neg (fun z => q (hs.mp z)), if_pos ⟨q, Or.inl (Nat.le_refl _)⟩, ← nk_lt e2]
          exact ih n (i + 1) _ (by omega) (by omega) (Or.inr m1)
      · have hbm : b ∈ Ml := List.mem_of_mem_take hb
        have b10 : b < 10 := hl.2.1 b hbm
        have lt := pw_take (t := fun a => g (107 + a)) p hO b hb
        obtain ⟨n3, n4⟩ := hn b hbm
        obtain ⟨n5, n6⟩ := hn _ (List.getElem_mem p)
        rw [nk_lt b10, if_neg (nI_pos (by omega)), lm_br]
        rcases h1 with h1 | h1
        · have na : ¬ ah g Ml[i] b = true := by
            unfold ah
            rw [h1, if_neg (by decide), if_neg (by decide), decide_eq_true_eq]
            omega
          rw [if_pos (by rw [h1]; decide), lm_br, ite_self, if_neg (fun z => by
            rcases z.2 with z | z
            · omega
            · exact na z), ← nk_lt b10]
          exact ih n (i + 1) b (by omega) (by omega) m2
        · have ea : ah g Ml[i] b = decide (g (97 + Ml[i]) < g (97 + b)) := by
            unfold ah
            rw [h1, if_neg (by decide), if_pos rfl, show decide (g (107 + Ml[i]) < g (107 + b)) = false from decide_eq_false (by omega), Bool.and_false, Bool.or_false]
          rw [if_neg (by rw [h1]; decide), ev_gi (by omega) (by omega), ev_gi (by omega) (by omega), ev_cl (by omega), ev_cl (by omega), n3, n5, lm_br]
          by_cases w : g (97 + Ml[i]) < g (97 + b)
          · rw [if_neg (nI_ge (by omega) (by omega)), lm_br]
            by_cases q : Ml[i] = sp
            · rw [if_pos (hs.mpr q), if_neg (fun z => z.1 q), ← nk_lt b10]
              exact ih n (i + 1) b (by omega) (by omega) m2
            · rw [if_neg (fun z => q (hs.mp z)), if_pos ⟨q, Or.inr (by rw [ea]; exact decide_eq_true w)⟩, ← nk_lt e2]
              exact ih n (i + 1) _ (by omega) (by omega) (Or.inr m1)
          · rw [if_pos (nI_le (by omega) (by omega)), lm_br, ite_self, if_neg (fun z => by
              rcases z.2 with z | z
              · omega
              · rw [ea, decide_eq_true_eq] at z
                exact w z), ← nk_lt b10]
            exact ih n (i + 1) b (by omega) (by omega) m2
/-- the row in whose order answers go -/
def rw_ (g : Nat → Nat) (Mq Ml : List Nat) : List Nat := if g 1 = 2 then Mq else Ml
theorem l_first {u fq fl fn : Nat → Int32} {Mq Ml : List Nat} (hu : u 1 = nI (g 1)) (h1 : g 1 ≤ 2) (hq : lr_R fq Mq) (hl : lr_R fl Ml) (hO : Od g Mq Ml) (hn : ∀ k ∈ Ml, fn k = nI (g (97 + k)) ∧ g (97 + k) < 1073741824) {sp : Nat} {spi : Int32} (hsp : (sp < 10 ∧ spi = nI sp) ∨ (10 ≤ sp ∧ spi = -1)) : F_L_first (lw_f4 u fq fl fn) spi = some (nk (-1) (rb (ah g) sp (rw_ g Mq Ml) 10)) := by
  have e : (-1 : Int32) = nk (-1) 10 := nk_10.symm
  unfold F_L_first rw_
  by_cases q : g 1 = 2
  · rw [if_pos q]
    have := l_firstQ_L (fl := fl) (fn := fn) hu q hq hO.2.1 hsp Mq.length 1000 0 10 (by omega) (by have := hq.1; omega) (Or.inl rfl)
    rw [nk_10, List.drop_zero] at this
    exact this
  · rw [if_neg q]
    have := l_firstL_L hu (by omega) hq hl (Od_len hO) hO.2.2 hn hsp Ml.length 1000 0 10 (by omega) (by have := hl.1; omega) (Or.inl rfl)
    rw [nk_10, List.drop_zero] at this
    exact this
theorem rw_mem {Mq Ml : List Nat} (hO : Od g Mq Ml) (k : Nat) : k ∈ rw_ g Mq Ml ↔ k ∈ Ml := by
  unfold rw_
  split
  · exact hO.1 k
  · exact Iff.rfl
/-- the law's first is the one that goes first -/
theorem rb_fir {Mq Ml : List Nat} (hO : Od g Mq Ml) (hK : ∀ k, k ∈ Ml ↔ k < 10 ∧ 0 < g (97 + k)) (sp : Nat) : rb (ah g) sp (rw_ g Mq Ml) 10 = fir g sp := by
  unfold fir
  rw [pD_rb]
  refine rb_eq (P := fun k => k ∈ Ml) (So_ah (Od_Ds hO (fun k hk => ((hK k).mp hk).1))) sp (fun k hk => (rw_mem hO k).mp hk) (fun k => ?_)
  rw [rw_mem hO k, hK k, List.mem_filter, List.mem_range'_1]
  unfold knb
  rw [decide_eq_true_eq]
  constructor
  · intro q
    exact ⟨⟨Nat.zero_le _, by omega⟩, q.2⟩
  · intro q
    exact ⟨by omega, q.2⟩
end LF1
