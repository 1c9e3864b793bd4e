/-! the fault of the pad, on both sides -/
theorem brT {α : Type} {c : Prop} [Decidable c] {a b : α} (h : c) : lm_br c a b = a := if_pos h
theorem brF {α : Type} {c : Prop} [Decidable c] {a b : α} (h : ¬ c) : lm_br c a b = b := if_neg h
section PD4
variable {C : Nat → Nat} {n : Nat}
theorem VA.cg {w : Bool} {a : Nat} {f f' : Nat → Int32} (h : VA C w a f) (e : ∀ i, i < 4 → f' i = f i) : VA C w a f' := by
  unfold VA at h ⊢
  rw [e 0 (by omega), e 1 (by omega), e 2 (by omega)]
  exact h
theorem iOk_d {a : Nat} : iOk C true a ↔ dOk C a := by unfold iOk; rw [if_pos rfl]
theorem iOk_r {a : Nat} : iOk C false a ↔ rOk C a := by unfold iOk; rw [if_neg (by decide)]
theorem iE_d {a : Nat} : iE C true a = dE C a := if_pos rfl
theorem iE_r {a : Nat} : iE C false a = rE C a := if_neg (by decide)
theorem nOk_n {l a m : Nat} (hz : ∀ i, n ≤ i → C i = 0) (h : nOk C l a) : a < n ∧ nE C m a ≤ n := by
  have h1 := h.1
  have ha : a < n := by
    by_cases z : a < n
    · exact z
    · have := hz a (by omega)
      omega
  refine ⟨ha, ?_⟩
  unfold nE
  split
  · rename_i t
    have t2 := t.2.1
    by_cases z : a + 1 < n
    · omega
    · have := hz (a + 1) (by omega)
      omega
  · omega
theorem rE_b {a : Nat} (hz : ∀ i, n ≤ i → C i = 0) (h : rOk C a) : a + 1 ≤ rE C a ∧ rE C a ≤ n := by
  obtain ⟨h1, h2, h3⟩ := h
  have := nE_b C 9 a
  have := nE_b C 99 (nE C 9 a + 1)
  have := (nOk_n (m := 99) hz h3).2
  unfold rE
  rw [if_pos h1, if_pos h2, if_pos h3]
  omega
theorem iE_b {w : Bool} {a : Nat} (hz : ∀ i, n ≤ i → C i = 0) (h : iOk C w a) : a + 1 ≤ iE C w a ∧ iE C w a ≤ n := by
  cases w with
  | false =>
    rw [iE_r]
    exact rE_b hz (iOk_r.mp h)
  | true =>
    rw [iE_d]
    rcases iOk_d.mp h with ⟨q, z⟩ | ⟨q, z⟩ | ⟨q, z⟩ | q
    · have := nE_b C 20 (a + 1)
      have := (nOk_n (m := 20) hz z).2
      unfold dE
      rw [if_pos q, if_pos z]
      omega
    · have := rE_b hz z
      unfold dE
      rw [if_neg (by omega), if_pos q]
      omega
    · have := nE_b C 19 (a + 1)
      have := (nOk_n (m := 19) hz z).2
      unfold dE
      rw [if_neg (by omega), if_neg (by omega), if_pos q, if_pos z]
      omega
    · have ha : a < n := by
        by_cases z : a < n
        · exact z
        · have := hz a (by omega)
          omega
      unfold dE
      rw [if_neg (by omega), if_neg (by omega), if_neg (by omega), if_pos q]
      omega
/-- where item k begins, where the reading stands behind k items -/
def pos (C : Nat → Nat) (w : Bool) : Nat → Nat
  | 0 => 0
  | k + 1 => iE C w (pos C w k) + 1
def bk (C : Nat → Nat) (w : Bool) : Nat → Nat
  | 0 => 0
  | k + 1 => iE C w (pos C w k)
def Gd (C : Nat → Nat) (w : Bool) (k : Nat) : Prop := ∀ j, j < k → iOk C w (pos C w j) ∧ C (iE C w (pos C w j)) = sepN w
/-- the items of a pad without a fault -/
def Fl (C : Nat → Nat) (w : Bool) (n K : Nat) : Prop := 1 ≤ K ∧ K ≤ 30 ∧ Gd C w (K - 1) ∧ (∀ j, j < K → iOk C w (pos C w j) ∧ pos C w j ≤ n)
def RD (μ : Hp) (C : Nat → Nat) (w : Bool) (K : Nat) : Prop := ∀ j, j < K → VA C w (pos C w j) (fun i => μ 7 (4 * j + i)) ∧ (w = true → μ 7 (4 * j + 3) = nI (pos C w j))
def CFr (τ τ' : Hp) : Prop := τ' 0 1 = τ 0 1 ∧ τ' 0 2 = τ 0 2 ∧ ∀ c, c ≠ 0 → τ' c = τ c
def OFr (μ μ' : Hp) : Prop := (∀ j, j ≠ 11 → j ≠ 12 → μ' 0 j = μ 0 j) ∧ ∀ c, c ≠ 0 → c ≠ 7 → μ' c = μ c
theorem CFr.trans {τ τ' τ'' : Hp} (h : CFr τ τ') (h2 : CFr τ' τ'') : CFr τ τ'' := ⟨h2.1.trans h.1, h2.2.1.trans h.2.1, fun c hc => (h2.2.2 c hc).trans (h.2.2 c hc)⟩
theorem OFr.trans {μ μ' μ'' : Hp} (h : OFr μ μ') (h2 : OFr μ' μ'') : OFr μ μ'' := ⟨fun j a b => (h2.1 j a b).trans (h.1 j a b), fun c a b => (h2.2 c a b).trans (h.2 c a b)⟩
theorem sepN_b (w : Bool) : 1 ≤ sepN w ∧ sepN w < 127 := by
  unfold sepN
  split <;> omega
theorem Gd_b {w : Bool} (hz : ∀ i, n ≤ i → C i = 0) : ∀ k, Gd C w k → 2 * k ≤ pos C w k ∧ pos C w k ≤ n
  | 0, _ => ⟨Nat.le_refl _, Nat.zero_le _⟩
  | k + 1, h => by
    obtain ⟨i1, i2⟩ := Gd_b hz k (fun j hj => h j (by omega))
    obtain ⟨g1, g2⟩ := h k (by omega)
    have := iE_b hz g1
    have hs := sepN_b w
    have hn : iE C w (pos C w k) < n := by
      by_cases z : iE C w (pos C w k) < n
      · exact z
      · have := hz _ (Nat.le_of_not_lt z)
        omega
    rw [pos]
    omega
theorem Gd_At {w : Bool} (hz : ∀ i, n ≤ i → C i = 0) {k : Nat} (h : Gd C w k) : At C w (bk C w k) (pos C w k) ∧ bk C w k ≤ n := by
  cases k with
  | zero => exact ⟨Or.inl ⟨rfl, rfl⟩, Nat.zero_le _⟩
  | succ k =>
    obtain ⟨g1, g2⟩ := h k (by omega)
    have := iE_b hz g1
    refine ⟨Or.inr ⟨?_, g2, rfl⟩, ?_⟩
    · show 0 < iE C w (pos C w k)
      omega
    · show iE C w (pos C w k) ≤ n
      omega
theorem o_item {μ : Hp} (hP : RP μ C n) (w : Bool) {a k : Nat} (h11 : μ 0 11 = nI a) (h12 : μ 0 12 = nI k) (ha : a ≤ 60) (hk : k ≤ 30) : ∃ μ1, (∀ m, F_X7_fault_L23 (m + 1) μ (nI (wN w)) 1 = lm_br (iOk C w a) (lm_lt (lm_u μ1 0 12 (nI (k + 1))) fun σ11 => lm_b2 (F_X7_sign σ11 (nI (sepN w))) fun r14 σ13 => F_X7_fault_L23 m σ13 (nI (wN w)) r14) (some (nI (iE C w a), μ1))) ∧ μ1 0 11 = nI (iE C w a) ∧ (iOk C w a → VA C w a (fun i => μ1 7 (4 * k + i)) ∧ (w = true → μ1 7 (4 * k + 3) = nI a)) ∧ RF (4 * k) (4 * k + 4) μ μ1 := by
  cases w with
  | false =>
    obtain ⟨μ1, k1, k2, k3, k4⟩ := o_rdRow hP h11 h12 (by omega) hk
    refine ⟨μ1, fun m => ?_, by rw [iE_r]; exact k2, fun ok => ⟨VA_r (k3 (iOk_r.mp ok)), fun z => absurd z (by decide)⟩, k4.mono (by omega) (by omega)⟩
    rw [F_X7_fault_L23, lm_br, if_neg (by decide), lm_br, if_neg (by decide), k1, lm_b2_some, lm_br, lm_br, iE_r]
    by_cases ok : rOk C a
    · rw [if_pos ok, if_neg (by decide), if_pos (iOk_r.mpr ok), k4.k h12, nI_1]
      rfl
    · rw [if_neg ok, if_pos rfl, if_neg (fun z => ok (iOk_r.mp z)), k2]
  | true =>
    obtain ⟨μ1, k1, k2, k3, k4⟩ := o_rdDeed hP h11 h12 ha hk
    refine ⟨μ1, fun m => ?_, by rw [iE_d]; exact k2, fun ok => ⟨(k3 (iOk_d.mp ok)).1, fun _ => (k3 (iOk_d.mp ok)).2⟩, k4⟩
    rw [F_X7_fault_L23, lm_br, if_neg (by decide), lm_br, if_pos (by decide), k1, lm_b2_some, lm_br, lm_br, iE_d]
    by_cases ok : dOk C a
    · rw [if_pos ok, if_pos (by decide), if_pos (iOk_d.mpr ok), k4.k h12, nI_1]
      rfl
    · rw [if_neg ok, if_neg (by decide), if_neg (fun z => ok (iOk_d.mp z)), k2]
def FS (C : Nat → Nat) (n : Nat) (w : Bool) (k : Nat) (τ μ : Hp) : Prop := CP τ C n ∧ RP μ C n ∧ τ 0 2 = nI (wN w) ∧ τ 0 3 = nI (bk C w k) ∧ τ 0 4 = nI k ∧ μ 0 11 = nI (pos C w k) ∧ μ 0 12 = nI k ∧ RD μ C w k
/-- what the whole reading brings -/
def Fin (C : Nat → Nat) (n : Nat) (w : Bool) (τ μ : Hp) (x y : Option (Int32 × Hp)) : Prop := ∃ r τ' μ', x = some (r, τ') ∧ y = some (r, μ') ∧ CFr τ τ' ∧ OFr μ μ' ∧ (r = -4 → ∃ K, τ' 0 4 = nI K ∧ μ' 0 12 = nI K ∧ RD μ' C w K ∧ Fl C w n K)
theorem fault_1 (w : Bool) {k m m' : Nat} {τ μ : Hp} (hS : FS C n w k τ μ) (hG : Gd C w k) : Fin C n w τ μ (F_X3_findFault_L10 (m + 2) τ) (F_X7_fault_L23 (m' + 2) μ (nI (wN w)) 1) ∨ ∃ τ1 μ1, F_X3_findFault_L10 (m + 2) τ = F_X3_findFault_L10 (m + 1) τ1 ∧ F_X7_fault_L23 (m' + 2) μ (nI (wN w)) 1 = F_X7_fault_L23 (m' + 1) μ1 (nI (wN w)) 1 ∧ FS C n w (k + 1) τ1 μ1 ∧ Gd C w (k + 1) ∧ CFr τ τ1 ∧ OFr μ μ1 := by
  obtain ⟨hP, hQ, c2, c3, c4, o11, o12, hD⟩ := hS
  have hz := hP.2.2.2
  have n60 := hP.2.1
  obtain ⟨b1, b2⟩ := Gd_b hz k hG
  obtain ⟨hA, b3⟩ := Gd_At hz hG
  obtain ⟨τ1, k1, k2, k3, k4, k5, k6⟩ := c_next hP w c2 c3 hA (by omega)
  obtain ⟨μ1, m1, m2, m3, m4⟩ := o_item hQ w o11 o12 (by omega) (by omega)
  have hs := sepN_b w
  have e1 : F_X3_findFault_L10 (m + 2) τ = lm_br (iOk C w (pos C w k)) (lm_br (¬ nI (iE C w (pos C w k)) = nI n) (F_X3_findFault_L10 (m + 1) (lm_u τ1 0 4 (nI (k + 1)))) (some ((-4 : Int32), lm_u τ1 0 4 (nI (k + 1))))) (some (nI (iE C w (pos C w k)), τ1)) := by
    rw [show m + 2 = m + 1 + 1 from rfl, F_X3_findFault_L10, lm_br, c4, if_neg (show ¬ (60 : Int32) ≤ nI k from nI_ge (a := k) (b := 60) (by omega) (by omega)), k1, lm_b2_some, lm_br, lm_br]
    by_cases ok : iOk C w (pos C w k)
    · rw [if_pos ok, if_neg (by decide), if_pos ok, lm_lt_eq, k5 4 (by omega), c4, nI_1, lu_ne _ (c := 0) (i := 4) (j := 3) _ (by omega), lu_ne _ (c := 0) (i := 4) (j := 1) _ (by omega), k2, k5 1 (by omega), hP.1]
    · rw [if_neg ok, if_pos rfl, if_neg ok, k2]
  have CF1 : CFr τ τ1 := ⟨k5 1 (by omega), k5 2 (by omega), k6⟩
  have CF2 : ∀ x, CFr τ (lm_u τ1 0 4 x) := fun x => ⟨by rw [lu_ne _ _ (by omega)]; exact k5 1 (by omega), by rw [lu_ne _ _ (by omega)]; exact k5 2 (by omega), fun c hc => by rw [lu_c _ _ _ hc]; exact k6 c hc⟩
  have OF1 : OFr μ μ1 := ⟨fun j a _ => m4.1 j a, m4.2.1⟩
  have OF2 : ∀ x y, OFr μ (lm_u (lm_u μ1 0 12 x) 0 11 y) := fun x y => ⟨fun j a b => by rw [lu_ne _ _ a, lu_ne _ _ b]; exact m4.1 j a, fun c a b => by rw [lu_c _ _ _ a, lu_c _ _ _ a]; exact m4.2.1 c a b⟩
  rw [show m' + 2 = m' + 1 + 1 from rfl, m1, e1]
  by_cases ok : iOk C w (pos C w k)
  · have ib := iE_b hz ok
    have Q1 : RP (lm_u μ1 0 12 (nI (k + 1))) C n := (m4.P hQ).of (lu_ne _ _ (by omega)) (lu_c _ _ _ (by omega))
    have P1 : CP (lm_u τ1 0 4 (nI (k + 1))) C n := (hP.of (k5 1 (by omega)) (k6 1 (by omega))).u (by omega) _
    have q11 : lm_u μ1 0 12 (nI (k + 1)) 0 11 = nI (iE C w (pos C w k)) := by rw [lu_ne _ _ (by omega)]; exact m2
    have RD2 : ∀ x y, RD (lm_u (lm_u μ1 0 12 x) 0 11 y) C w (k + 1) := by
      intro x y j hj
      have ex : ∀ i, (lm_u (lm_u μ1 0 12 x) 0 11 y) 7 i = μ1 7 i := fun i => by rw [lu_c _ _ _ (by omega), lu_c _ _ _ (by omega)]
      by_cases q : j = k
      · subst q
        obtain ⟨v1, v2⟩ := m3 ok
        exact ⟨v1.cg (fun i _ => ex _), fun z => by rw [ex]; exact v2 z⟩
      · obtain ⟨v1, v2⟩ := hD j (by omega)
        exact ⟨v1.cg (fun i hi => by rw [ex]; exact m4.2.2 _ (by omega)), fun z => by rw [ex, m4.2.2 _ (by omega)]; exact v2 z⟩
    rw [brT ok, brT ok, lm_lt_eq, o_sign Q1 q11 (by omega) hs, lm_b2_some, lm_br]
    by_cases en : iE C w (pos C w k) = n
    · have c0 : ¬ C (iE C w (pos C w k)) = sepN w := by rw [hz _ (by omega)]; omega
      left
      rw [if_neg (not_not_intro (by rw [en])), if_neg c0, if_neg c0]
      refine ⟨-4, lm_u τ1 0 4 (nI (k + 1)), lm_u (lm_u μ1 0 12 (nI (k + 1))) 0 11 (nI (iE C w (pos C w k))), rfl, ?_, CF2 _, OF2 _ _, fun _ => ⟨k + 1, lu_same _ _ _ _, ?_, RD2 _ _, by omega, by omega, hG, fun j hj => ?_⟩⟩
      · rw [F_X7_fault_L23, lm_br, if_pos rfl, lm_br, lu_same, lu_ne _ (c := 0) (i := 11) (j := 8) _ (by omega), Q1.1, en, if_neg (not_not_intro rfl)]
      · rw [lu_ne _ _ (by omega), lu_same]
      · by_cases q : j = k
        · subst q
          exact ⟨ok, b2⟩
        · have hj' : Gd C w j := fun i hi => hG i (by omega)
          exact ⟨(hG j (by omega)).1, (Gd_b hz j hj').2⟩
    · have ne : ¬ nI (iE C w (pos C w k)) = nI n := fun z => en ((nI_eq (by omega) (by omega)).mp z)
      rw [if_pos ne]
      by_cases es : C (iE C w (pos C w k)) = sepN w
      · right
        rw [if_pos es, if_pos es]
        refine ⟨_, _, rfl, rfl, ⟨P1, Q1.of (lu_ne _ _ (by omega)) (lu_c _ _ _ (by omega)), ?_, ?_, lu_same _ _ _ _, lu_same _ _ _ _, ?_, RD2 _ _⟩, fun j hj => ?_, CF2 _, OF2 _ _⟩
        · rw [lu_ne _ _ (by omega), k5 2 (by omega)]; exact c2
        · rw [lu_ne _ _ (by omega)]; exact k2
        · rw [lu_ne _ _ (by omega), lu_same]
        · by_cases q : j = k
          · subst q
            exact ⟨ok, es⟩
          · exact hG j (by omega)
      · left
        rw [if_neg es, if_neg es]
        have hno := c_nextNo P1 w (b := iE C w (pos C w k)) (by rw [lu_ne _ _ (by omega), k5 2 (by omega)]; exact c2) (by rw [lu_ne _ _ (by omega)]; exact k2) (by omega) es (by omega)
        refine ⟨nI (iE C w (pos C w k)), lm_u τ1 0 4 (nI (k + 1)), lm_u (lm_u μ1 0 12 (nI (k + 1))) 0 11 (nI (iE C w (pos C w k))), ?_, ?_, CF2 _, OF2 _ _, fun z => ?_⟩
        · rw [F_X3_findFault_L10, lm_br, lu_same, if_neg (show ¬ (60 : Int32) ≤ nI (k + 1) from nI_ge (a := k + 1) (b := 60) (by omega) (by omega)), hno, lm_b2_some, lm_br, if_pos rfl, lu_ne _ _ (by omega), k2]
        · rw [F_X7_fault_L23, lm_br, if_pos rfl, lm_br, lu_same, lu_ne _ (c := 0) (i := 11) (j := 8) _ (by omega), Q1.1, if_pos ne]
        · exact absurd (show nI (iE C w (pos C w k)) < 0 by rw [z]; decide) (nI_nn _ (by omega))
  · left
    rw [brF ok, brF ok]
    refine ⟨nI (iE C w (pos C w k)), τ1, μ1, rfl, rfl, CF1, OF1, fun z => ?_⟩
    have hb : iE C w (pos C w k) < 1000 := by
      have : iE C w (pos C w k) ≤ pos C w k + 10 := by
        have r : ∀ a, rE C a ≤ a + 6 := fun a => by
          have := nE_b C 9 a
          have := nE_b C 99 (nE C 9 a + 1)
          unfold rE
          split
          · split
            · split <;> omega
            · omega
          · omega
        cases w with
        | false => rw [iE_r]; have := r (pos C false k); omega
        | true =>
          rw [iE_d]
          have := r (pos C true k + 1)
          have := nE_b C 20 (pos C true k + 1)
          have := nE_b C 19 (pos C true k + 1)
          unfold dE
          split
          · split <;> omega
          · split
            · omega
            · split
              · split <;> omega
              · split <;> omega
      omega
    exact absurd (show nI (iE C w (pos C w k)) < 0 by rw [z]; decide) (nI_nn _ (by omega))
theorem fault_L (w : Bool) : ∀ d k m m' (τ μ : Hp), FS C n w k τ μ → Gd C w k → n ≤ 2 * k + d → d < m → d < m' → Fin C n w τ μ (F_X3_findFault_L10 (m + 1) τ) (F_X7_fault_L23 (m' + 1) μ (nI (wN w)) 1) := by
  intro d
  induction d with
  | zero =>
    intro k m m' τ μ hS hG hn hm hm'
    obtain ⟨x, hx⟩ : ∃ x, m = x + 1 := ⟨m - 1, by omega⟩
    obtain ⟨x', hx'⟩ : ∃ x', m' = x' + 1 := ⟨m' - 1, by omega⟩
    subst hx
    subst hx'
    rcases fault_1 (m := x) (m' := x') w hS hG with h | ⟨τ1, μ1, h1, h2, h3, h4, h5, h6⟩
    · exact h
    · have := (Gd_b h3.1.2.2.2 (k + 1) h4)
      omega
  | succ d ih =>
    intro k m m' τ μ hS hG hn hm hm'
    obtain ⟨x, hx⟩ : ∃ x, m = x + 1 := ⟨m - 1, by omega⟩
    obtain ⟨x', hx'⟩ : ∃ x', m' = x' + 1 := ⟨m' - 1, by omega⟩
    subst hx
    subst hx'
    rcases fault_1 (m := x) (m' := x') w hS hG with h | ⟨τ1, μ1, h1, h2, h3, h4, h5, h6⟩
    · exact h
    · obtain ⟨r, τ', μ', i1, i2, i3, i4, i5⟩ := ih (k + 1) x x' τ1 μ1 h3 h4 (by omega) (by omega) (by omega)
      exact ⟨r, τ', μ', h1.trans i1, h2.trans i2, h5.trans i3, h6.trans i4, i5⟩
/-- class and reference hold the same pad -/
theorem fault_both (w : Bool) {τ μ : Hp} (hP : CP τ C n) (hQ : RP μ C n) : ∃ r τ' μ', F_X3_findFault τ (nI (wN w)) = some (r, τ') ∧ F_X7_fault μ (nI (wN w)) = some (r, μ') ∧ τ' 0 1 = τ 0 1 ∧ τ' 0 2 = nI (wN w) ∧ (∀ c, c ≠ 0 → τ' c = τ c) ∧ OFr μ μ' ∧ (r = -4 → ∃ K, τ' 0 4 = nI K ∧ μ' 0 12 = nI K ∧ RD μ' C w K ∧ Fl C w n K) := by
  have hw : F_X3_open τ (nI (wN w)) = some (lm_u (lm_u τ 0 2 (nI (wN w))) 0 3 0) := by
    unfold F_X3_open
    rw [lm_gd, if_pos (by cases w <;> decide), lm_lt_eq, lm_lt_eq]
  have hi : F_X7_in (nI (wN w)) 0 1 = some 1 := by cases w <;> decide
  unfold F_X3_findFault F_X7_fault
  rw [hw, lm_bd_some, lm_lt_eq, hi, lm_bd_some, lm_br, if_pos (by decide), lm_lt_eq, lm_lt_eq]
  have hS : FS C n w 0 (lm_u (lm_u (lm_u τ 0 2 (nI (wN w))) 0 3 0) 0 4 0) (lm_u (lm_u μ 0 11 0) 0 12 0) := by
    refine ⟨((hP.u (by omega) _).u (by omega) _).u (by omega) _, hQ.of ?_ ?_, ?_, ?_, lu_same _ _ _ _, ?_, lu_same _ _ _ _, fun j hj => absurd hj (by omega)⟩
    · rw [lu_ne _ _ (by omega), lu_ne _ _ (by omega)]
    · rw [lu_c _ _ _ (by omega), lu_c _ _ _ (by omega)]
    · rw [lu_ne _ _ (by omega), lu_ne _ _ (by omega), lu_same]
    · rw [lu_ne _ _ (by omega), lu_same]
      rfl
    · rw [lu_ne _ _ (by omega), lu_same]
      rfl
  obtain ⟨r, τ', μ', i1, i2, i3, i4, i5⟩ := fault_L w 60 0 999 999 _ _ hS (fun j hj => absurd hj (by omega)) (by have := hP.2.1; omega) (by omega) (by omega)
  refine ⟨r, τ', μ', i1, i2, ?_, ?_, fun c hc => ?_, ⟨fun j a b => ?_, fun c a b => ?_⟩, i5⟩
  · rw [i3.1, lu_ne _ _ (by omega), lu_ne _ _ (by omega), lu_ne _ _ (by omega)]
  · rw [i3.2.1, lu_ne _ _ (by omega), lu_ne _ _ (by omega), lu_same]
  · rw [i3.2.2 c hc, lu_c _ _ _ hc, lu_c _ _ _ hc, lu_c _ _ _ hc]
  · rw [i4.1 j a b, lu_ne _ _ b, lu_ne _ _ a]
  · rw [i4.2 c a b, lu_c _ _ _ a, lu_c _ _ _ a]
end PD4
