/-! keeping, looking up, stepping: the reference -/
def nbD (g : Nat → Nat) (a b : Nat) : Nat → Nat → Nat
  | 0, _ => 0
  | d + 1, k => (if (k = a ∨ k = b) ∧ 0 < g (97 + k) then 1 else 0) + nbD g a b d (k + 1)
def kpF (g : Nat → Nat) (a b d k : Nat) : Nat → Nat := fun j => if g 2 = 0 then (if 97 + k ≤ j ∧ j < 97 + k + d ∧ (j = 97 + a ∨ j = 97 + b) then 0 else if j = 13 then g 13 + nbD g a b d k else g j) else if g 2 = 2 then (if j = 15 then g 15 + nbD g a b d k else g j) else g j
def kp (g : Nat → Nat) (a b : Nat) : Nat → Nat := if g 2 = 1 then la g else kpF g a b 10 0
/-- what is done with one key -/
def kst (g : Nat → Nat) (a b k : Nat) : Nat → Nat := if k = a ∨ k = b then (if g 2 = 2 then un g 15 (g 15 + (if 0 < g (97 + k) then 1 else 0)) else if g 2 = 0 then to g k else g) else g
theorem nbD_congr {g g' : Nat → Nat} {a b : Nat} : ∀ d k, (∀ i, k ≤ i → i < k + d → (0 < g' (97 + i) ↔ 0 < g (97 + i))) → nbD g' a b d k = nbD g a b d k
  | 0, _, _ => rfl
  | d + 1, k, h => by
    rw [nbD, nbD, nbD_congr d (k + 1) (fun i h1 h2 => h i (by omega) (by omega))]
    have := h k (by omega) (by omega)
    by_cases q : (k = a ∨ k = b) ∧ 0 < g (97 + k)
    · rw [if_pos q, if_pos ⟨q.1, this.mpr q.2⟩]
    · rw [if_neg q, if_neg (fun z => q ⟨z.1, this.mp z.2⟩)]
theorem kst_other {g : Nat → Nat} {a b k j : Nat} (h1 : j ≠ 97 + k) (h2 : j ≠ 13) (h3 : j ≠ 15) : kst g a b k j = g j := by
  unfold kst to
  split
  · split
    · rw [un_ne _ _ h3]
    · split
      · split
        · rw [un_ne _ _ h2, un_ne _ _ h1]
        · rfl
      · rfl
  · rfl
theorem kst_val (g : Nat → Nat) (a b k j : Nat) : kst g a b k j = if k = a ∨ k = b then (if g 2 = 2 then (if j = 15 then g 15 + (if 0 < g (97 + k) then 1 else 0) else g j) else if g 2 = 0 then (if 0 < g (97 + k) then (if j = 13 then g 13 + 1 else if j = 97 + k then 0 else g j) else g j) else g j) else g j := by
  unfold kst to
  by_cases c : k = a ∨ k = b
  · rw [if_pos c, if_pos c]
    by_cases c2 : g 2 = 2
    · rw [if_pos c2, if_pos c2]
      rfl
    · rw [if_neg c2, if_neg c2]
      by_cases c0 : g 2 = 0
      · rw [if_pos c0, if_pos c0]
        by_cases kn : 0 < g (97 + k)
        · rw [if_pos kn, if_pos kn]
          rfl
        · rw [if_neg kn, if_neg kn]
      · rw [if_neg c0, if_neg c0]
  · rw [if_neg c, if_neg c]
theorem kst_F {g : Nat → Nat} {a b k d : Nat} (hk : k < 10) (j : Nat) : kpF (kst g a b k) a b d (k + 1) j = kpF g a b (d + 1) k j := by
  have en : nbD (kst g a b k) a b d (k + 1) = nbD g a b d (k + 1) := nbD_congr d (k + 1) fun i h1 h2 => by rw [kst_other (by omega) (by omega) (by omega)]
  have e2 : kst g a b k 2 = g 2 := kst_other (by omega) (by omega) (by omega)
  unfold kpF
  rw [en, e2, nbD]
  rw [kst_val, kst_val, kst_val]
  by_cases j1 : j = 97 + k
  · subst j1
    repeat' split
    all_goals omega
  · by_cases j2 : j = 13
    · subst j2
      repeat' split
      all_goals omega
    · by_cases j3 : j = 15
      · subst j3
        repeat' split
        all_goals omega
      · repeat' split
        all_goals first | rfl | omega
theorem kst_Kb {g : Nat → Nat} (h : Kb g) {a b k : Nat} (hk : k < 10) : Kb (kst g a b k) := by
  intro i hi
  by_cases e : i = k
  · subst e
    unfold kst to
    split
    · split
      · rw [un_ne _ _ (by omega)]; exact h i hi
      · split
        · split
          · rw [un_ne _ _ (by omega), un_same]; omega
          · exact h i hi
        · exact h i hi
    · exact h i hi
  · rw [kst_other (by omega) (by omega) (by omega)]
    exact h i hi
section OK
variable {μ : Hp} {g : Nat → Nat}
theorem un_self (g : Nat → Nat) (i j : Nat) : un g i (g i + 0) j = g j := by
  by_cases e : j = i
  · rw [e, un_same, Nat.add_zero]
  · rw [un_ne _ _ e]
theorem o_keeps_L {a b : Nat} (ha : a < 10) (hb : b < 10) : ∀ d n (g : Nat → Nat) (μ : Hp) k x3, Mo μ g → Kb g → g 2 ≤ 2 → x3 + d < 1000 → k + d = 10 → d < n → ∃ μ', F_X7_keeps_L20 n μ (nI a) (nI b) (nI x3) (nI k) = some μ' ∧ Mo μ' (kpF g a b d k) ∧ Fr μ μ' := by
  intro d
  induction d with
  | zero =>
    intro n g μ k x3 hM hK h2 hx hr hn
    cases n with
    | zero => omega
    | succ n =>
      rw [F_X7_keeps_L20]
      have k10 : (10 : Int32) ≤ nI k := by rw [ev_k10]; exact nI_le (by omega) (by omega)
      rw [lm_br, if_pos k10]
      refine ⟨_, rfl, Mo_eq hM fun j hj => ?_, Fr.rf⟩
      unfold kpF nbD
      split
      · rw [if_neg (by omega)]
        split
        · next e => rw [e]; rfl
        · rfl
      · split
        · split
          · next e => rw [e]; rfl
          · rfl
        · rfl
  | succ d ih =>
    intro n g μ k x3 hM hK h2 hx hr hn
    cases n with
    | zero => omega
    | succ n =>
      have k10 : ¬ (10 : Int32) ≤ nI k := by rw [ev_k10]; exact nI_ge (by omega) (by omega)
      have x0 : ¬ nI x3 < 0 := nI_pos (by omega)
      have hkn := o_isKnown hM (k := k) (by omega) (hK k (by omega))
      have ka : (nI k = nI a) ↔ k = a := nI_eq (by omega) (by omega)
      have kb : (nI k = nI b) ↔ k = b := nI_eq (by omega) (by omega)
      have m2 : ∀ v : Nat, v < 3 → ((μ 1 2 = nI v) ↔ g 2 = v) := fun v hv => by rw [hM 2 (by omega)]; exact nI_eq (by omega) (by omega)
      have m22 : (μ 1 2 = (2 : Int32)) ↔ g 2 = 2 := m2 2 (by omega)
      have m20 : (μ 1 2 = (0 : Int32)) ↔ g 2 = 0 := m2 0 (by omega)
      -- what follows, from a heap that stands for what is done with k
      have go : ∀ (μ1 : Hp) (y : Nat), Mo μ1 (kst g a b k) → Fr μ μ1 → y ≤ 1 → ∃ μ', F_X7_keeps_L20 n μ1 (nI a) (nI b) (nI x3 + nI y) (nI k + 1) = some μ' ∧ Mo μ' (kpF g a b (d + 1) k) ∧ Fr μ μ' := by
        intro μ1 y h1 h3 hy
        obtain ⟨μ', i1, i2, i3⟩ := ih n (kst g a b k) μ1 (k + 1) (x3 + y) h1 (kst_Kb hK (by omega)) (by rw [kst_other (by omega) (by omega) (by omega)]; exact h2) (by omega) (by omega) (by omega)
        rw [ev_add, nI_1]
        exact ⟨μ', i1, Mo_eq i2 fun j _ => (kst_F (by omega) j).symm, h3.trans i3⟩
      have e0 : ∀ x : Int32, x + 0 = x + nI 0 := fun x => rfl
      -- the part with k among the two
      have inn : ∀ c : k = a ∨ k = b, ∃ μ', (lm_br (¬ (μ 1 2) = (2 : Int32))
        (lm_lt (lm_u μ 1 15 ((μ 1 15) + (0 : Int32))) fun σ6 =>
        lm_br (¬ (σ6 1 2) = 0)
         (F_X7_keeps_L20 n σ6 (nI a) (nI b) (nI x3 + (0 : Int32)) (nI k + (1 : Int32)))
         (lm_b2 (F_X7_throwsOut σ6 (nI k)) fun r9 σ8 =>
         F_X7_keeps_L20 n σ8 (nI a) (nI b) (nI x3 + r9) (nI k + (1 : Int32))))
        (lm_bd (F_X7_isKnown μ (nI k)) fun r10 =>
        lm_br (r10 = 0)
         (lm_lt (lm_u μ 1 15 ((μ 1 15) + (0 : Int32))) fun σ12 =>
         lm_br (¬ (σ12 1 2) = 0)
          (F_X7_keeps_L20 n σ12 (nI a) (nI b) (nI x3 + (0 : Int32)) (nI k + (1 : Int32)))
          (lm_b2 (F_X7_throwsOut σ12 (nI k)) fun r15 σ14 =>
          F_X7_keeps_L20 n σ14 (nI a) (nI b) (nI x3 + r15) (nI k + (1 : Int32))))
         (lm_lt (lm_u μ 1 15 ((μ 1 15) + (1 : Int32))) fun σ16 =>
         lm_br (¬ (σ16 1 2) = 0)
          (F_X7_keeps_L20 n σ16 (nI a) (nI b) (nI x3 + (0 : Int32)) (nI k + (1 : Int32)))
          (lm_b2 (F_X7_throwsOut σ16 (nI k)) fun r19 σ18 =>
          F_X7_keeps_L20 n σ18 (nI a) (nI b) (nI x3 + r19) (nI k + (1 : Int32)))))) = some μ' ∧ Mo μ' (kpF g a b (d + 1) k) ∧ Fr μ μ' := by
        intro c
        have hM15 : ∀ y : Nat, Mo (lm_u μ 1 15 ((μ 1 15) + nI y)) (un g 15 (g 15 + y)) := fun y => by
          rw [hM 15 (by omega), ev_add]
          exact Mo_u hM 15 _
        have r2 : ∀ v : Int32, (lm_u μ 1 15 v) 1 2 = μ 1 2 := fun v => lu_ne _ _ (by omega)
        by_cases g2 : g 2 = 2
        · rw [lm_br, if_neg (not_not_intro (m22.mpr g2)), hkn, lm_bd_some]
          have n0 : ¬ μ 1 2 = 0 := fun q => by have := m20.mp q; omega
          by_cases kn : 0 < g (97 + k)
          · rw [if_pos kn, lm_br, if_neg (by decide), lm_lt_eq, lm_br, r2, if_pos n0, e0]
            refine go _ 0 ?_ (Fr.rf.u _ _) (by omega)
            rw [kst, if_pos c, if_pos g2, if_pos kn]
            exact hM15 1
          · rw [if_neg kn, lm_br, if_pos (by decide), lm_lt_eq, lm_br, r2, if_pos n0, e0 (nI x3)]
            refine go _ 0 ?_ (Fr.rf.u _ _) (by omega)
            rw [kst, if_pos c, if_pos g2, if_neg kn]
            exact hM15 0
        · rw [lm_br, if_pos (fun q => g2 (m22.mp q)), lm_lt_eq, lm_br, r2]
          have hM0 := Mo_eq (hM15 0) (g' := g) (fun j _ => (un_self g 15 j).symm)
          by_cases g0 : g 2 = 0
          · rw [if_neg (not_not_intro (m20.mpr g0))]
            obtain ⟨μ1, t1, t2, t3⟩ := o_throwsOut hM0 (k := k) (by omega) (hK k (by omega))
            rw [show (0 : Int32) = nI 0 from rfl, t1, lm_b2_some]
            refine go _ _ ?_ ((Fr.rf.u _ _).trans t3) (by split <;> omega)
            rw [kst, if_pos c, if_neg g2, if_pos g0]
            exact t2
          · rw [if_pos (fun q => g0 (m20.mp q)), e0 (nI x3)]
            refine go _ 0 ?_ (Fr.rf.u _ _) (by omega)
            rw [kst, if_pos c, if_neg g2, if_neg g0]
            exact hM0
      rw [F_X7_keeps_L20, lm_br, if_neg k10, lm_br, if_neg x0]
      by_cases c1 : k = a
      · rw [lm_br, if_pos (ka.mpr c1)]
        exact inn (Or.inl c1)
      · rw [lm_br, if_neg (fun q => c1 (ka.mp q))]
        by_cases c2 : k = b
        · rw [lm_br, if_neg (not_not_intro (kb.mpr c2))]
          exact inn (Or.inr c2)
        · rw [lm_br, if_pos (fun q => c2 (kb.mp q))]
          have ek : kst g a b k = g := by rw [kst, if_neg (by omega)]
          have := go μ 0 (by rw [ek]; exact hM) Fr.rf (by omega)
          rw [ev_add, Nat.add_zero] at this
          exact this
theorem la_2 (g : Nat → Nat) : la g 2 = g 2 := by
  unfold la laF
  rw [if_neg (by omega), if_neg (by omega)]
theorem la_Kb {g : Nat → Nat} (h : Kb g) : Kb (la g) := by
  intro k hk
  unfold la laF
  rw [if_pos (by omega)]
  omega
theorem o_keeps (hM : Mo μ g) (hK : Kb g) (h2 : g 2 ≤ 2) {a b : Nat} (ha : a < 10) (hb : b < 10) : ∃ μ', F_X7_keeps μ (nI a) (nI b) = some μ' ∧ Mo μ' (kp g a b) ∧ Fr μ μ' := by
  unfold F_X7_keeps kp
  rw [hM 2 (by omega), ev_k1]
  by_cases g1 : g 2 = 1
  · rw [lm_br, if_neg (not_not_intro (by rw [g1])), if_pos g1]
    obtain ⟨μ1, t1, t2, t3⟩ := o_throwsAll hM hK
    rw [t1, lm_b2_some]
    have hk : kno g ≤ 10 := kD_le g 10 0
    obtain ⟨μ', i1, i2, i3⟩ := o_keeps_L ha hb 10 1000 (la g) μ1 0 (kno g) t2 (la_Kb hK) (by rw [la_2]; exact h2) (by omega) (by omega) (by omega)
    refine ⟨μ', i1, Mo_eq i2 fun j _ => ?_, t3.trans i3⟩
    unfold kpF
    rw [la_2, if_neg (by omega), if_neg (by omega)]
  · rw [lm_br, if_pos (fun q => g1 ((nI_eq (by omega) (by omega)).mp q)), if_neg g1]
    exact o_keeps_L ha hb 10 1000 g μ 0 0 hM hK h2 (by omega) (by omega) (by omega)
/-- looking up -/
def lkH (g : Nat → Nat) (k : Nat) : Nat → Nat := un (un (un (un g 16 (g 16 + 1)) (97 + k) (g (97 + k) + 1)) (107 + k) (g 16 + 1)) 9 (g 9 + 1)
def lkM (g : Nat → Nat) : Nat → Nat := un (un g 16 (g 16 + 1)) 10 (g 10 + 1)
def lkT (g : Nat → Nat) (k : Nat) : Nat → Nat := un (un (un (lkM g) (97 + k) 1) (107 + k) (g 16 + 1)) (117 + k) (g 16 + 1)
def lk (g : Nat → Nat) (k : Nat) : (Nat → Nat) × Nat := if 0 < g (97 + k) then (lkH g k, 1) else if 2 + cnt g k ≤ g 0 then ((mr (lkT g k) k).1, 2 + g 5) else (un (lkM g) 14 (g 14 + 1), 2 + g 5)
theorem mrD_other {sp : Nat} : ∀ d (g : Nat → Nat) n j, ¬ (97 ≤ j ∧ j < 107) → (mrD sp d g n).1 j = g j
  | 0, _, _, _, _ => rfl
  | d + 1, g, n, j, h => by
    rw [mrD]
    split
    · next c =>
      rw [mrD_other d _ _ j h, un_ne _ _ (by omega)]
    · rfl
theorem mr_other {g : Nat → Nat} {sp j : Nat} (h : ¬ (97 ≤ j ∧ j < 107)) (h2 : j ≠ 12) : (mr g sp).1 j = g j := by
  unfold mr
  show un _ 12 _ j = g j
  rw [un_ne _ _ h2, mrD_other _ _ _ _ h]
theorem mrD_le {sp : Nat} : ∀ d (g : Nat → Nat) n, (mrD sp d g n).2 ≤ n + d
  | 0, _, _ => Nat.le_refl _
  | d + 1, g, n => by
    rw [mrD]
    split
    · have := mrD_le (sp := sp) d (un g (97 + fir g sp) 0) (n + 1)
      omega
    · omega
theorem mr_le (g : Nat → Nat) (sp : Nat) : (mr g sp).2 ≤ 10 := by
  have := mrD_le (sp := sp) 10 g 0
  unfold mr
  omega
theorem lkM_Teq {g : Nat → Nat} (h5 : g 5 ≤ 20) : Teq g (lkM g) := (Teq_un _ h5 (by omega)).trans (Teq_un _ (by rw [un_ne _ _ (by omega)]; exact h5) (by omega))
theorem lkT_Teq {g : Nat → Nat} (h5 : g 5 ≤ 20) {k : Nat} (hk : k < 10) : Teq g (lkT g k) := by
  have h := lkM_Teq h5
  have e : ∀ {g' : Nat → Nat} {i : Nat} (x : Nat), Teq g g' → 57 ≤ i → Teq g (un g' i x) := fun x hT hi => hT.trans (Teq_un x (by rw [hT.1]; exact h5) (by omega))
  exact e _ (e _ (e _ h (by omega)) (by omega)) (by omega)
theorem Kn.c {g : Nat → Nat} (h : Kn g) (h1 : g 1 ≤ 2) (h16 : g 16 ≤ 1000000) : Kc g := ⟨h1, fun k hk => ⟨by have := (h k hk).1; omega, fun q => by have := (h k hk).2 q; omega⟩⟩
theorem lkT_Kc {g : Nat → Nat} (h : Kn g) (h1 : g 1 ≤ 2) (h16 : g 16 ≤ 1000000) {k : Nat} (hk : k < 10) : Kc (lkT g k) := by
  unfold lkT lkM
  refine ⟨?_, fun i hi => ?_⟩
  · repeat rw [un_ne _ _ (by omega)]
    exact h1
  · obtain ⟨a1, a2⟩ := h i hi
    by_cases e : i = k
    · subst e
      rw [un_ne _ _ (show 97 + i ≠ 117 + i by omega), un_ne _ _ (show 97 + i ≠ 107 + i by omega), un_same, un_ne _ _ (show 107 + i ≠ 117 + i by omega), un_same, un_same]
      exact ⟨by omega, fun _ => by omega⟩
    · rw [un_ne _ _ (show 97 + i ≠ 117 + k by omega), un_ne _ _ (show 97 + i ≠ 107 + k by omega), un_ne _ _ (show 97 + i ≠ 97 + k by omega), un_ne _ _ (show 97 + i ≠ 10 by omega), un_ne _ _ (show 97 + i ≠ 16 by omega)]
      rw [un_ne _ _ (show 107 + i ≠ 117 + k by omega), un_ne _ _ (show 107 + i ≠ 107 + k by omega), un_ne _ _ (show 107 + i ≠ 97 + k by omega), un_ne _ _ (show 107 + i ≠ 10 by omega), un_ne _ _ (show 107 + i ≠ 16 by omega)]
      rw [un_ne _ _ (show 117 + i ≠ 117 + k by omega), un_ne _ _ (show 117 + i ≠ 107 + k by omega), un_ne _ _ (show 117 + i ≠ 97 + k by omega), un_ne _ _ (show 117 + i ≠ 10 by omega), un_ne _ _ (show 117 + i ≠ 16 by omega)]
      exact ⟨by omega, fun q => by have := a2 q; omega⟩
theorem o_looks (hM : Mo μ g) {t c : Nat} (hI : In t c g) {k : Nat} (hk : k < 10) : ∃ μ', F_X7_looks μ (nI k) = some (nI (lk g k).2, μ') ∧ Mo μ' (lk g k).1 ∧ Fr μ μ' := by
  obtain ⟨hR, hO, hKn, ⟨h0, h1, h2⟩, hb8, h16, ht, hc⟩ := hI
  have hK : Kc g := hKn.c h1 (by omega)
  have h5 := hR.1
  unfold F_X7_looks lk
  have e97 : (97 : Int32) + nI k = nI (97 + k) := nI_add 97 _
  have e107 : (107 : Int32) + nI k = nI (107 + k) := nI_add 107 _
  have e117 : (117 : Int32) + nI k = nI (117 + k) := nI_add 117 _
  have hM1 : Mo (lm_u μ 1 16 (μ 1 16 + 1)) (un g 16 (g 16 + 1)) := by
    rw [hM 16 (by omega), nI_1]
    exact Mo_u hM 16 _
  rw [lm_lt_eq]
  generalize hμ1 : lm_u μ 1 16 (μ 1 16 + 1) = μ1 at hM1
  have hF1 : Fr μ μ1 := by rw [← hμ1]; exact Fr.rf.u _ _
  have a97 : un g 16 (g 16 + 1) (97 + k) = g (97 + k) := un_ne _ _ (by omega)
  rw [o_isKnown hM1 hk (by rw [a97]; exact hK.b k hk), lm_bd_some, a97, e97, e107, e117]
  by_cases kn : 0 < g (97 + k)
  · rw [if_pos kn, lm_br, if_neg (by decide), if_pos kn]
    rw [ev_gi (by omega) (by omega), ev_gi (by omega) (by omega), ev_cl (by omega), ev_cl (by omega), lm_lt_eq, ev_gi (by omega) (by omega), lm_lt_eq, lm_lt_eq]
    refine ⟨_, rfl, ?_, ((hF1.u _ _).u _ _).u _ _⟩
    have b1 : μ1 1 (97 + k) + 1 = nI (g (97 + k) + 1) := by rw [hM1 _ (by omega), a97, nI_1]
    rw [b1]
    have hM2 := Mo_u hM1 (97 + k) (g (97 + k) + 1)
    have b2 : (lm_u μ1 1 (97 + k) (nI (g (97 + k) + 1))) 1 16 = nI (g 16 + 1) := by rw [hM2 16 (by omega), un_ne _ _ (by omega), un_same]
    rw [b2]
    have hM3 := Mo_u hM2 (107 + k) (g 16 + 1)
    have b3 : (lm_u (lm_u μ1 1 (97 + k) (nI (g (97 + k) + 1))) 1 (107 + k) (nI (g 16 + 1))) 1 9 + 1 = nI (g 9 + 1) := by rw [hM3 9 (by omega), un_ne _ _ (by omega), un_ne _ _ (by omega), un_ne _ _ (by omega), nI_1]
    rw [b3]
    exact Mo_u hM3 9 _
  · rw [if_neg kn, lm_br, if_pos (by decide), if_neg kn, lm_lt_eq]
    have hM2 : Mo (lm_u μ1 1 10 (μ1 1 10 + 1)) (lkM g) := by
      rw [hM1 10 (by omega), un_ne _ _ (by omega), nI_1]
      exact Mo_u hM1 10 _
    generalize hμ2 : lm_u μ1 1 10 (μ1 1 10 + 1) = μ2 at hM2
    have hF2 : Fr μ μ2 := by rw [← hμ2]; exact hF1.u _ _
    have hT := lkM_Teq h5
    have l0 : lkM g 0 = g 0 := by unfold lkM; rw [un_ne _ _ (by omega), un_ne _ _ (by omega)]
    have hcn : cnt g k ≤ 20 := Nat.le_trans (cD_le g k _ _) h5
    rw [o_weight hM2 (hT.rin hR) (by omega), lm_bd_some, hT.cnt, hM2 0 (by omega), l0]
    by_cases w : 2 + cnt g k ≤ g 0
    · rw [lm_br, if_pos (nI_le w (by omega)), if_pos w, ev_gi (by omega) (by omega), ev_cl (by omega), lm_lt_eq, ev_gi (by omega) (by omega), ev_cl (by omega), lm_lt_eq, ev_gi (by omega) (by omega), ev_cl (by omega), lm_lt_eq]
      have hM3 := Mo_u hM2 (97 + k) 1
      have b1 : (lm_u μ2 1 (97 + k) 1) 1 16 = nI (g 16 + 1) := by
        rw [show (1 : Int32) = nI 1 from rfl, hM3 16 (by omega), un_ne _ _ (by omega), lkM, un_ne _ _ (by omega), un_same]
      rw [b1]
      have hM4 := Mo_u hM3 (107 + k) (g 16 + 1)
      have b2 : (lm_u (lm_u μ2 1 (97 + k) 1) 1 (107 + k) (nI (g 16 + 1))) 1 16 = nI (g 16 + 1) := by
        rw [lu_ne _ _ (by omega), b1]
      rw [b2]
      have hM5 := Mo_u hM4 (117 + k) (g 16 + 1)
      have hM5' : Mo (lm_u (lm_u (lm_u μ2 1 (97 + k) 1) 1 (107 + k) (nI (g 16 + 1))) 1 (117 + k) (nI (g 16 + 1))) (lkT g k) := hM5
      generalize hμ5 : lm_u (lm_u (lm_u μ2 1 (97 + k) 1) 1 (107 + k) (nI (g 16 + 1))) 1 (117 + k) (nI (g 16 + 1)) = μ5 at hM5'
      have hF5 : Fr μ μ5 := by rw [← hμ5]; exact ((hF2.u _ _).u _ _).u _ _
      have hT5 := lkT_Teq h5 hk
      obtain ⟨μ6, m1, m2, m3⟩ := o_makesRoom (Or.inl ⟨hk, rfl⟩) hM5' (lkT_Kc hKn h1 (by omega) hk) (hT5.rin hR) (by
        unfold lkT
        rw [un_ne _ _ (by omega), un_ne _ _ (by omega), un_ne _ _ (by omega), l0]
        exact h0)
      rw [m1, lm_b2_some]
      have hn2 : (mr (lkT g k) k).2 ≤ 10 := mr_le _ _
      rw [lm_br, if_pos (nI_pos' (by omega)), lm_lt_eq]
      have b8 : μ5 1 8 + 0 = nI ((mr (lkT g k) k).1 8) := by
        rw [hM5' 8 (by omega), mr_other (by omega) (by omega)]
        exact nI_add _ 0
      rw [b8]
      have hM7 := Mo_u m2 8 ((mr (lkT g k) k).1 8)
      have hM8 := Mo_eq hM7 (g' := (mr (lkT g k) k).1) fun j _ => by
        by_cases e : j = 8
        · rw [e, un_same]
        · rw [un_ne _ _ e]
      have b5 : (lm_u μ6 1 8 (nI ((mr (lkT g k) k).1 8))) 1 5 = nI (g 5) := by
        rw [hM8 5 (by omega), mr_other (by omega) (by omega), hT5.1]
      rw [b5, ev_k2, ev_add]
      exact ⟨_, rfl, hM8, (hF5.trans m3).u _ _⟩
    · rw [lm_br, if_neg (nI_ge (by omega) (by omega)), if_neg w, lm_lt_eq]
      have b1 : μ2 1 14 + 1 = nI (g 14 + 1) := by
        rw [hM2 14 (by omega), lkM, un_ne _ _ (by omega), un_ne _ _ (by omega), nI_1]
      rw [b1]
      have hM3 := Mo_u hM2 14 (g 14 + 1)
      have b5 : (lm_u μ2 1 14 (nI (g 14 + 1))) 1 5 = nI (g 5) := by
        rw [hM3 5 (by omega), un_ne _ _ (by omega), hT.1]
      rw [b5, ev_k2, ev_add]
      exact ⟨_, rfl, hM3, hF2.u _ _⟩
end OK
