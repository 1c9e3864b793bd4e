/-! the pad: what is read in it, as numbers; the class's reading -/
abbrev nOk (C : Nat → Nat) (l a : Nat) : Prop := 48 + l ≤ C a ∧ C a ≤ 57
abbrev nTwo (C : Nat → Nat) (m a : Nat) : Prop := C a ≠ 48 ∧ 48 ≤ C (a + 1) ∧ C (a + 1) ≤ 57 ∧ 10 * (C a - 48) + (C (a + 1) - 48) ≤ m
def nV (C : Nat → Nat) (m a : Nat) : Nat := if nTwo C m a then 10 * (C a - 48) + (C (a + 1) - 48) else C a - 48
def nE (C : Nat → Nat) (m a : Nat) : Nat := if nTwo C m a then a + 2 else a + 1
abbrev rOk (C : Nat → Nat) (a : Nat) : Prop := nOk C 0 a ∧ C (nE C 9 a) = 58 ∧ nOk C 0 (nE C 9 a + 1)
def rE (C : Nat → Nat) (a : Nat) : Nat := if nOk C 0 a then (if C (nE C 9 a) = 58 then (if nOk C 0 (nE C 9 a + 1) then nE C 99 (nE C 9 a + 1) else nE C 9 a + 1) else nE C 9 a) else a
def rK (C : Nat → Nat) (a : Nat) : Nat := nV C 9 a
def rV (C : Nat → Nat) (a : Nat) : Nat := nV C 99 (nE C 9 a + 1)
abbrev dOk (C : Nat → Nat) (a : Nat) : Prop := (C a = 115 ∧ nOk C 1 (a + 1)) ∨ (C a = 43 ∧ rOk C (a + 1)) ∨ (C a = 45 ∧ nOk C 0 (a + 1)) ∨ C a = 114
def dE (C : Nat → Nat) (a : Nat) : Nat := if C a = 115 then (if nOk C 1 (a + 1) then nE C 20 (a + 1) else a + 1) else if C a = 43 then rE C (a + 1) else if C a = 45 then (if nOk C 0 (a + 1) then nE C 19 (a + 1) else a + 1) else if C a = 114 then a + 1 else a
def d1 (C : Nat → Nat) (a : Nat) : Nat := if C a = 115 then nV C 20 (a + 1) else if C a = 43 then rK C (a + 1) else nV C 19 (a + 1)
/-- what is read of an item: its sign, its numbers -/
def VA (C : Nat → Nat) (w : Bool) (a : Nat) (f : Nat → Int32) : Prop := if w = true then f 0 = nI (C a) ∧ (C a ≠ 114 → f 1 = nI (d1 C a)) ∧ (C a = 43 → f 2 = nI (rV C (a + 1))) else f 1 = nI (rK C a) ∧ f 2 = nI (rV C a)
abbrev iOk (C : Nat → Nat) (w : Bool) (a : Nat) : Prop := if w = true then dOk C a else rOk C a
def iE (C : Nat → Nat) (w : Bool) (a : Nat) : Nat := if w = true then dE C a else rE C a
def wN (w : Bool) : Nat := if w = true then 1 else 0
def sepN (w : Bool) : Nat := if w = true then 59 else 44
theorem e48l : ∀ x, x < 127 → ∀ l, l < 2 → ((nI x - (48 : Int32) < nI l) ↔ x < 48 + l) := by decide +kernel
theorem e48 : ∀ x, x < 127 → ((nI x - (48 : Int32) < 0) ↔ x < 48) := by decide +kernel
theorem e57 : ∀ x, x < 127 → ((nI x - (48 : Int32) ≤ 9) ↔ x ≤ 57) := by decide +kernel
theorem e57b : ∀ x, x < 127 → (((9 : Int32) < nI x - (48 : Int32)) ↔ 57 < x) := by decide +kernel
section PD1
variable {C : Nat → Nat} {n : Nat}
/-- the class's pad holds these characters -/
def CP (τ : Hp) (C : Nat → Nat) (n : Nat) : Prop := τ 0 1 = nI n ∧ n ≤ 60 ∧ (∀ i, i < n → τ 1 i = nI (C i) ∧ 33 ≤ C i ∧ C i ≤ 126) ∧ ∀ i, n ≤ i → C i = 0
theorem CP.lt {τ : Hp} (h : CP τ C n) (i : Nat) : C i < 127 := by
  by_cases q : i < n
  · have := (h.2.2.1 i q).2.2
    omega
  · rw [h.2.2.2 i (by omega)]
    omega
theorem CP.of {τ τ' : Hp} (h : CP τ C n) (h1 : τ' 0 1 = τ 0 1) (h2 : τ' 1 = τ 1) : CP τ' C n := by
  refine ⟨h1.trans h.1, h.2.1, fun i hi => ?_, h.2.2.2⟩
  rw [h2]
  exact h.2.2.1 i hi
theorem CP.u {τ : Hp} (h : CP τ C n) {i : Nat} (hi : i ≠ 1) (x : Int32) : CP (lm_u τ 0 i x) C n := h.of (lu_ne _ _ (Ne.symm hi)) (lu_c _ _ _ (by omega))
theorem c_code {τ : Hp} (h : CP τ C n) {a : Nat} (ha : a ≤ 100) : F_X3_code τ (nI a) = some (nI (C a)) := by
  obtain ⟨h1, h2, h3, h4⟩ := h
  unfold F_X3_code
  rw [lm_br, if_neg (nI_nn a (by omega)), lm_br, h1]
  by_cases q : n ≤ a
  · rw [if_pos (nI_le q (by omega)), h4 a q]
    rfl
  · rw [if_neg (nI_ge (by omega) (by omega)), lm_br, if_neg (show ¬ (60 : Int32) ≤ nI a from nI_ge (a := a) (b := 60) (by omega) (by omega)), ev_gi (by omega) (by omega), ev_cl (by omega), (h3 a (by omega)).1]
theorem c_takes {τ : Hp} (h : CP τ C n) {a s : Nat} (h3 : τ 0 3 = nI a) (ha : a ≤ 100) (hs : s < 127) : F_X3_takes τ (nI s) = some (if C a = s then 1 else 0, if C a = s then lm_u τ 0 3 (nI (a + 1)) else τ) := by
  have hx := h.lt a
  unfold F_X3_takes
  rw [h3, c_code h ha, lm_bd_some, lm_br]
  by_cases q : C a = s
  · rw [if_pos (show nI (C a) = nI s by rw [q]), if_pos q, if_pos q, lm_lt_eq, nI_1]
  · rw [if_neg (fun z => q ((nI_eq (by omega) (by omega)).mp z)), if_neg q, if_neg q]
theorem c_num {τ : Hp} (hP : CP τ C n) {a l m : Nat} (h3 : τ 0 3 = nI a) (ha : a ≤ 90) (hl : l < 2) (hm : 9 ≤ m ∧ m ≤ 99) : ∃ τ', F_X3_readNumber τ (nI l) (nI m) = some (if nOk C l a then nI (nV C m a) else -4, τ') ∧ τ' 0 3 = nI (if nOk C l a then nE C m a else a) ∧ (∀ j, j ≠ 3 → τ' 0 j = τ 0 j) ∧ ∀ c, c ≠ 0 → τ' c = τ c := by
  have hx := hP.lt a
  have hy := hP.lt (a + 1)
  unfold F_X3_readNumber
  rw [h3, c_code hP (by omega), lm_bd_some, lm_br]
  by_cases q1 : C a < 48 + l
  · have no : ¬ nOk C l a := fun z => by have := z.1; omega
    rw [if_pos ((e48l _ hx _ hl).mpr q1), if_neg no, if_neg no]
    exact ⟨τ, rfl, h3, fun _ _ => rfl, fun _ _ => rfl⟩
  · rw [if_neg (fun z => q1 ((e48l _ hx _ hl).mp z)), lm_br]
    by_cases q2 : C a ≤ 57
    · have ok : nOk C l a := ⟨by omega, q2⟩
      have hP' : CP (lm_u τ 0 3 (nI (a + 1))) C n := hP.u (by omega) _
      have h3' : lm_u τ 0 3 (nI (a + 1)) 0 3 = nI (a + 1) := lu_same _ _ _ _
      rw [if_pos ((e57 _ hx).mpr q2), if_pos ok, if_pos ok, lm_lt_eq, nI_1, h3', c_code hP' (by omega), lm_bd_some, lm_br, show nI (C a) - (48 : Int32) = nI (C a - 48) from pk_sub (b := 48) (by omega)]
      have fin : ∀ v : Int32, ∃ τ', some (v, lm_u τ 0 3 (nI (a + 1))) = some (v, τ') ∧ τ' 0 3 = nI (a + 1) ∧ (∀ j, j ≠ 3 → τ' 0 j = τ 0 j) ∧ ∀ c, c ≠ 0 → τ' c = τ c := fun v => ⟨_, rfl, lu_same _ _ _ _, fun j hj => lu_ne _ _ hj, fun c hc => lu_c _ _ _ hc⟩
      by_cases q3 : C a = 48
      · have nt : ¬ nTwo C m a := fun z => z.1 q3
        unfold nV nE
        rw [if_pos (show nI (C a - 48) = 0 by rw [q3]; rfl), if_neg nt, if_neg nt]
        exact fin _
      · rw [if_neg (show ¬ nI (C a - 48) = 0 from nI_ne0 (by omega) (by omega)), lm_br]
        by_cases q4 : C (a + 1) < 48
        · have nt : ¬ nTwo C m a := fun z => by have := z.2.1; omega
          unfold nV nE
          rw [if_pos ((e48 _ hy).mpr q4), if_neg nt, if_neg nt]
          exact fin _
        · rw [if_neg (fun z => q4 ((e48 _ hy).mp z)), lm_br]
          by_cases q5 : 57 < C (a + 1)
          · have nt : ¬ nTwo C m a := fun z => by have := z.2.2.1; omega
            unfold nV nE
            rw [if_pos ((e57b _ hy).mpr q5), if_neg nt, if_neg nt]
            exact fin _
          · rw [if_neg (fun z => q5 ((e57b _ hy).mp z)), lm_br, show nI (C (a + 1)) - (48 : Int32) = nI (C (a + 1) - 48) from pk_sub (b := 48) (by omega), ev_k10, ev_mul, ev_add]
            by_cases q6 : 10 * (C a - 48) + (C (a + 1) - 48) ≤ m
            · have tw : nTwo C m a := ⟨q3, by omega, by omega, q6⟩
              unfold nV nE
              rw [if_pos (nI_le q6 (by omega)), lm_lt_eq, nI_1, if_pos tw, if_pos tw]
              exact ⟨_, rfl, lu_same _ _ _ _, fun j hj => by rw [lu_ne _ _ hj, lu_ne _ _ hj], fun c hc => by rw [lu_c _ _ _ hc, lu_c _ _ _ hc]⟩
            · have nt : ¬ nTwo C m a := fun z => q6 z.2.2.2
              unfold nV nE
              rw [if_neg (nI_ge (by omega) (by omega)), if_neg nt, if_neg nt]
              exact fin _
    · have no : ¬ nOk C l a := fun z => q2 z.2
      rw [if_neg (fun z => q2 ((e57 _ hx).mp z)), if_neg no, if_neg no]
      exact ⟨τ, rfl, h3, fun _ _ => rfl, fun _ _ => rfl⟩
theorem nE_b (C : Nat → Nat) (m a : Nat) : a + 1 ≤ nE C m a ∧ nE C m a ≤ a + 2 := by
  unfold nE
  split <;> omega
theorem nV_b {τ : Hp} (h : CP τ C n) {l m a : Nat} (hm : 9 ≤ m) (ok : nOk C l a) : nV C m a ≤ m := by
  unfold nV
  have := ok.2
  split
  · rename_i q
    exact q.2.2.2
  · omega
theorem c_rdRow {τ : Hp} (hP : CP τ C n) {a : Nat} (h3 : τ 0 3 = nI a) (ha : a ≤ 80) : ∃ τ', F_X3_readRow τ = some (if rOk C a then 1 else 0, τ') ∧ τ' 0 3 = nI (rE C a) ∧ (rOk C a → τ' 0 7 = nI (rK C a) ∧ τ' 0 8 = nI (rV C a)) ∧ (∀ j, j ≠ 3 → j ≠ 7 → j ≠ 8 → τ' 0 j = τ 0 j) ∧ ∀ c, c ≠ 0 → τ' c = τ c := by
  obtain ⟨τ1, k1, k2, k3, k4⟩ := c_num hP (l := 0) (m := 9) h3 (by omega) (by omega) (by omega)
  have k1' : F_X3_readNumber τ 0 9 = _ := k1
  have hP1 : CP τ1 C n := hP.of (k3 1 (by omega)) (k4 1 (by omega))
  have eb := nE_b C 9 a
  unfold F_X3_readRow
  rw [k1', lm_b2_some, lm_lt_eq, lu_same, lm_br]
  by_cases ok1 : nOk C 0 a
  · rw [if_pos ok1] at k2
    have hb : nV C 9 a ≤ 9 := nV_b hP (by omega) ok1
    rw [if_pos ok1, if_neg (nI_nn _ (by omega))]
    have h3' : lm_u τ1 0 7 (nI (nV C 9 a)) 0 3 = nI (nE C 9 a) := by rw [lu_ne _ _ (by omega)]; exact k2
    have hP2 : CP (lm_u τ1 0 7 (nI (nV C 9 a))) C n := hP1.u (by omega) _
    rw [show (58 : Int32) = nI 58 from rfl, c_takes hP2 h3' (by omega) (by omega), lm_b2_some, lm_br]
    by_cases ok2 : C (nE C 9 a) = 58
    · rw [if_pos ok2, if_pos ok2, if_pos (by decide)]
      obtain ⟨τ2, m1, m2, m3, m4⟩ := c_num (hP2.u (i := 3) (by omega) (nI (nE C 9 a + 1))) (l := 0) (m := 99) (lu_same _ _ _ _) (by omega) (by omega) (by omega)
      have m1' : F_X3_readNumber (lm_u (lm_u τ1 0 7 (nI (nV C 9 a))) 0 3 (nI (nE C 9 a + 1))) 0 99 = _ := m1
      rw [m1', lm_b2_some, lm_lt_eq, lu_same, lm_br]
      by_cases ok3 : nOk C 0 (nE C 9 a + 1)
      · have okr : rOk C a := ⟨ok1, ok2, ok3⟩
        have hb2 : nV C 99 (nE C 9 a + 1) ≤ 99 := nV_b hP (by omega) ok3
        rw [if_pos ok3] at m2
        rw [if_pos ok3, if_neg (nI_nn _ (by omega)), if_pos okr]
        refine ⟨_, rfl, ?_, fun _ => ⟨?_, lu_same _ _ _ _⟩, fun j j3 j7 j8 => ?_, fun c hc => ?_⟩
        · rw [lu_ne _ _ (by omega), m2]
          unfold rE
          rw [if_pos ok1, if_pos ok2, if_pos ok3]
        · rw [lu_ne _ _ (by omega), m3 7 (by omega), lu_ne _ _ (by omega), lu_same]
          rfl
        · rw [lu_ne _ _ j8, m3 j j3, lu_ne _ _ j3, lu_ne _ _ j7, k3 j j3]
        · rw [lu_c _ _ _ hc, m4 c hc, lu_c _ _ _ hc, lu_c _ _ _ hc, k4 c hc]
      · have nok : ¬ rOk C a := fun z => ok3 z.2.2
        rw [if_neg ok3] at m2
        rw [if_neg ok3, if_pos (by decide), if_neg nok]
        refine ⟨_, rfl, ?_, fun z => absurd z nok, fun j j3 j7 j8 => ?_, fun c hc => ?_⟩
        · rw [lu_ne _ _ (by omega), m2]
          unfold rE
          rw [if_pos ok1, if_pos ok2, if_neg ok3]
        · rw [lu_ne _ _ j8, m3 j j3, lu_ne _ _ j3, lu_ne _ _ j7, k3 j j3]
        · rw [lu_c _ _ _ hc, m4 c hc, lu_c _ _ _ hc, lu_c _ _ _ hc, k4 c hc]
    · have nok : ¬ rOk C a := fun z => ok2 z.2.1
      rw [if_neg ok2, if_neg ok2, if_neg (by decide), if_neg nok]
      refine ⟨_, rfl, ?_, fun z => absurd z nok, fun j j3 j7 j8 => ?_, fun c hc => ?_⟩
      · rw [h3']
        unfold rE
        rw [if_pos ok1, if_neg ok2]
      · rw [lu_ne _ _ j7, k3 j j3]
      · rw [lu_c _ _ _ hc, k4 c hc]
  · have nok : ¬ rOk C a := fun z => ok1 z.1
    rw [if_neg ok1] at k2
    rw [if_neg ok1, if_pos (by decide), if_neg nok]
    refine ⟨_, rfl, ?_, fun z => absurd z nok, fun j j3 j7 j8 => ?_, fun c hc => ?_⟩
    · rw [lu_ne _ _ (by omega), k2]
      unfold rE
      rw [if_neg ok1]
    · rw [lu_ne _ _ j7, k3 j j3]
    · rw [lu_c _ _ _ hc, k4 c hc]
end PD1
