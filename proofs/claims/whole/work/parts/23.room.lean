/-! throwing out, making room, keeping: the reference -/
/-- same inner table and band -/
def Teq (g g' : Nat → Nat) : Prop := g' 5 = g 5 ∧ g' 3 = g 3 ∧ g' 4 = g 4 ∧ ∀ i, i < g 5 → g' (17 + 2 * i) = g (17 + 2 * i) ∧ g' (18 + 2 * i) = g (18 + 2 * i)
theorem teq_mt {g g' : Nat → Nat} (h : Teq g g') (k : Nat) {i : Nat} (hi : i < g 5) : mt g' k i = mt g k i := by
  obtain ⟨-, h3, h4, hr⟩ := h
  obtain ⟨a, b⟩ := hr i hi
  unfold mt
  rw [h3, h4, a, b]
theorem cD_congr {g g' : Nat → Nat} {k : Nat} : ∀ d r, (∀ i, r ≤ i → i < r + d → mt g' k i = mt g k i) → cD g' k d r = cD g k d r
  | 0, _, _ => rfl
  | d + 1, r, h => by rw [cD, cD, h r (by omega) (by omega), cD_congr d (r + 1) (fun i h1 h2 => h i (by omega) (by omega))]
theorem sD_congr {g g' : Nat → Nat} {k : Nat} : ∀ d r, (∀ i, r ≤ i → i < r + d → mt g' k i = mt g k i ∧ g' (18 + 2 * i) = g (18 + 2 * i)) → sD g' k d r = sD g k d r
  | 0, _, _ => rfl
  | d + 1, r, h => by rw [sD, sD, (h r (by omega) (by omega)).1, (h r (by omega) (by omega)).2, sD_congr d (r + 1) (fun i h1 h2 => h i (by omega) (by omega))]
theorem fD_congr {g g' : Nat → Nat} {k : Nat} : ∀ d r, (∀ i, r ≤ i → i < r + d → mt g' k i = mt g k i) → fD g' k d r = fD g k d r
  | 0, _, _ => rfl
  | d + 1, r, h => by rw [fD, fD, h r (by omega) (by omega), fD_congr d (r + 1) (fun i h1 h2 => h i (by omega) (by omega))]
theorem teq_cnt {g g' : Nat → Nat} (h : Teq g g') (k : Nat) : cnt g' k = cnt g k := by
  unfold cnt
  rw [h.1]
  exact cD_congr _ _ fun i _ h2 => teq_mt h k (by omega)
theorem teq_sm {g g' : Nat → Nat} (h : Teq g g') (k : Nat) : sm g' k = sm g k := by
  unfold sm
  rw [h.1]
  exact sD_congr _ _ fun i _ h2 => ⟨teq_mt h k (by omega), (h.2.2.2 i (by omega)).2⟩
theorem teq_fs {g g' : Nat → Nat} (h : Teq g g') (k : Nat) : fs g' k = fs g k := by
  unfold fs
  rw [h.1]
  exact fD_congr _ _ fun i _ h2 => teq_mt h k (by omega)
theorem Teq.mt {g g' : Nat → Nat} (h : Teq g g') (k : Nat) {i : Nat} (hi : i < g 5) : mt g' k i = mt g k i := teq_mt h k hi
theorem Teq.cnt {g g' : Nat → Nat} (h : Teq g g') (k : Nat) : cnt g' k = cnt g k := teq_cnt h k
theorem Teq.sm {g g' : Nat → Nat} (h : Teq g g') (k : Nat) : sm g' k = sm g k := teq_sm h k
theorem Teq.fs {g g' : Nat → Nat} (h : Teq g g') (k : Nat) : fs g' k = fs g k := teq_fs h k
theorem Teq.rin {g g' : Nat → Nat} (h : Teq g g') (hR : Rin g) : Rin g' := by
  obtain ⟨a, b, c, d⟩ := h
  obtain ⟨h5, h3, h4, hr⟩ := hR
  refine ⟨by omega, by omega, by omega, fun i hi => ?_⟩
  rw [(d i (by omega)).1, (d i (by omega)).2]
  exact hr i (by omega)
theorem Teq_un {g : Nat → Nat} {i : Nat} (x : Nat) (h5 : g 5 ≤ 20) (hi : 57 ≤ i ∨ (6 ≤ i ∧ i < 17) ∨ i < 3) : Teq g (un g i x) := by
  refine ⟨un_ne _ _ (by omega), un_ne _ _ (by omega), un_ne _ _ (by omega), fun r hr => ⟨un_ne _ _ (by omega), un_ne _ _ (by omega)⟩⟩
theorem Teq.trans {g g' g'' : Nat → Nat} (h : Teq g g') (h2 : Teq g' g'') : Teq g g'' := by
  obtain ⟨a, b, c, d⟩ := h
  obtain ⟨a2, b2, c2, d2⟩ := h2
  refine ⟨by omega, by omega, by omega, fun i hi => ?_⟩
  obtain ⟨e1, e2⟩ := d i hi
  obtain ⟨f1, f2⟩ := d2 i (by omega)
  exact ⟨by omega, by omega⟩
theorem Teq.rf {g : Nat → Nat} : Teq g g := ⟨rfl, rfl, rfl, fun _ _ => ⟨rfl, rfl⟩⟩
theorem wD_congr {g g' : Nat → Nat} (hT : Teq g g') : ∀ d k, (∀ i, k ≤ i → i < k + d → (0 < g' (97 + i) ↔ 0 < g (97 + i))) → wD g' d k = wD g d k
  | 0, _, _ => rfl
  | d + 1, k, h => by
    rw [wD, wD, wD_congr hT d (k + 1) (fun i h1 h2 => h i (by omega) (by omega)), hT.cnt]
    have := h k (by omega) (by omega)
    by_cases q : 0 < g (97 + k)
    · rw [if_pos q, if_pos (this.mpr q)]
    · rw [if_neg q, if_neg (fun z => q (this.mp z))]
theorem kD_congr {g g' : Nat → Nat} : ∀ d k, (∀ i, k ≤ i → i < k + d → (0 < g' (97 + i) ↔ 0 < g (97 + i))) → kD g' d k = kD g d k
  | 0, _, _ => rfl
  | d + 1, k, h => by
    rw [kD, kD, kD_congr d (k + 1) (fun i h1 h2 => h i (by omega) (by omega))]
    have := h k (by omega) (by omega)
    by_cases q : 0 < g (97 + k)
    · rw [if_pos q, if_pos (this.mpr q)]
    · rw [if_neg q, if_neg (fun z => q (this.mp z))]
theorem kD_le (g : Nat → Nat) : ∀ d k, kD g d k ≤ d
  | 0, _ => Nat.le_refl 0
  | d + 1, k => by
    have := kD_le g d (k + 1)
    rw [kD]
    split <;> omega
theorem wD_le {g : Nat → Nat} (h5 : g 5 ≤ 20) : ∀ d k, wD g d k ≤ 22 * d
  | 0, _ => Nat.le_refl 0
  | d + 1, k => by
    have := wD_le h5 d (k + 1)
    have hc : cnt g k ≤ 20 := Nat.le_trans (cD_le g k _ _) h5
    rw [wD]
    split <;> omega
/-- what one weighs less, when a known one is thrown out -/
theorem kD_lose {g : Nat → Nat} {j : Nat} (hj : 0 < g (97 + j)) : ∀ d k, k ≤ j → j < k + d → kD (un g (97 + j) 0) d k + 1 = kD g d k
  | 0, k, h1, h2 => by omega
  | d + 1, k, h1, h2 => by
    rw [kD, kD]
    by_cases e : k = j
    · subst e
      rw [un_same, if_neg (by omega), if_pos hj, kD_congr (g := g) (g' := un g (97 + k) 0) d (k + 1) (fun i a b => by rw [un_ne _ _ (by omega)])]
      omega
    · rw [un_ne _ _ (by omega)]
      have := kD_lose hj d (k + 1) (by omega) (by omega)
      omega
theorem wD_lose {g : Nat → Nat} (h5 : g 5 ≤ 20) {j : Nat} (hj : 0 < g (97 + j)) : ∀ d k, k ≤ j → j < k + d → wD (un g (97 + j) 0) d k + (2 + cnt g j) = wD g d k
  | 0, k, h1, h2 => by omega
  | d + 1, k, h1, h2 => by
    have hT : Teq g (un g (97 + j) 0) := Teq_un 0 h5 (by omega)
    rw [wD, wD]
    by_cases e : k = j
    · subst e
      rw [un_same, if_neg (by omega), if_pos hj, wD_congr hT d (k + 1) (fun i a b => by rw [un_ne _ _ (by omega)])]
      omega
    · rw [un_ne _ _ (by omega), hT.cnt]
      have := wD_lose h5 hj d (k + 1) (by omega) (by omega)
      omega
theorem kD_none {g : Nat → Nat} : ∀ d k, kD g d k = 0 → ∀ i, k ≤ i → i < k + d → ¬ 0 < g (97 + i)
  | 0, k, _, i, h1, h2 => by omega
  | d + 1, k, h, i, h1, h2 => by
    rw [kD] at h
    by_cases e : i = k
    · subst e
      intro q
      rw [if_pos q] at h
      omega
    · exact kD_none d (k + 1) (by omega) i (by omega) (by omega)
/-- frame: the other cells of the reference -/
def Fr (μ μ' : Hp) : Prop := ∀ c, c ≠ 1 → μ' c = μ c
theorem Fr.rf {μ : Hp} : Fr μ μ := fun _ _ => rfl
theorem Fr.u {μ μ' : Hp} (h : Fr μ μ') (i : Nat) (x : Int32) : Fr μ (lm_u μ' 1 i x) := fun c hc => by rw [lu_c _ _ _ hc, h c hc]
theorem Fr.trans {μ μ' μ'' : Hp} (h : Fr μ μ') (h2 : Fr μ' μ'') : Fr μ μ'' := fun c hc => by rw [h2 c hc, h c hc]
theorem Mo_eq {μ : Hp} {g g' : Nat → Nat} (h : Mo μ g) (e : ∀ j, j < 127 → g' j = g j) : Mo μ g' := fun j hj => by rw [e j hj]; exact h j hj
theorem Kc_un {g : Nat → Nat} (h : Kc g) {i : Nat} (hi : i < 97 ∨ 127 ≤ i) (h1 : i ≠ 1) (x : Nat) : Kc (un g i x) := by
  refine ⟨by rw [un_ne _ _ (by omega)]; exact h.1, fun k hk => ?_⟩
  rw [un_ne _ _ (by omega), un_ne _ _ (by omega), un_ne _ _ (by omega)]
  exact h.2 k hk
theorem Kc_lose {g : Nat → Nat} (h : Kc g) {j : Nat} (hj : j < 10) : Kc (un g (97 + j) 0) := by
  refine ⟨by rw [un_ne _ _ (by omega)]; exact h.1, fun k hk => ?_⟩
  rw [un_ne _ _ (show 107 + k ≠ 97 + j by omega), un_ne _ _ (show 117 + k ≠ 97 + j by omega)]
  by_cases e : k = j
  · subst e
    rw [un_same]
    exact ⟨by omega, fun q => by omega⟩
  · rw [un_ne _ _ (by omega)]
    exact h.2 k hk
/-- making room: d stands above what can be thrown out -/
def mrD (sp : Nat) : Nat → (Nat → Nat) → Nat → (Nat → Nat) × Nat
  | 0, g, n => (g, n)
  | d + 1, g, n => if fir g sp < 10 ∧ g 0 < wei g then mrD sp d (un g (97 + fir g sp) 0) (n + 1) else (g, n)
def mr (g : Nat → Nat) (sp : Nat) : (Nat → Nat) × Nat := (un (mrD sp 10 g 0).1 12 ((mrD sp 10 g 0).1 12 + (mrD sp 10 g 0).2), (mrD sp 10 g 0).2)
theorem fir_spec (g : Nat → Nat) (sp : Nat) : fir g sp ≤ 10 ∧ (fir g sp < 10 → fir g sp ≠ sp ∧ 0 < g (97 + fir g sp)) ∧ (fir g sp = 10 → ∀ j, j < 10 → j ≠ sp → ¬ 0 < g (97 + j)) := by
  obtain ⟨h1, h2, h3⟩ := pD_spec (knb g) (ah g) sp 10 0 10 (by omega) (by omega) (by omega)
  refine ⟨h1, fun h => ⟨(h2 h).1, of_decide_eq_true (h2 h).2⟩, fun h j hj hs q => ?_⟩
  exact (h3 h).2 j (by omega) hj ⟨hs, by simp [knb, q]⟩
section OR
variable {μ : Hp} {g : Nat → Nat}
theorem o_makesRoom_L {sp : Nat} {but : Int32} (hsp : (sp < 10 ∧ but = nI sp) ∨ (10 ≤ sp ∧ but = -4)) : ∀ d n (g : Nat → Nat) (μ : Hp) x2, Mo μ g → Kc g → Rin g → g 0 ≤ 60 → kno g ≤ d → d < n → ∃ μ', F_X7_makesRoom_L8 n μ but (nI x2) (nk (-4) (fir g sp)) = some (nI (mrD sp d g x2).2, μ') ∧ Mo μ' (un (mrD sp d g x2).1 12 ((mrD sp d g x2).1 12 + (mrD sp d g x2).2)) ∧ Fr μ μ' := by
  intro d
  induction d with
  | zero =>
    intro n g μ x2 hM hK hR h0 hk hn
    cases n with
    | zero => omega
    | succ n =>
      have hf : fir g sp = 10 := by
        obtain ⟨f1, f2, f3⟩ := fir_spec g sp
        rcases Nat.lt_or_ge (fir g sp) 10 with q | q
        · exact absurd (f2 q).2 (kD_none 10 0 (by unfold kno at hk; omega) _ (by omega) (by omega))
        · omega
      rw [F_X7_makesRoom_L8, hf, mrD]
      have n0 : nk (-4) 10 < 0 := by decide
      rw [lm_br, if_pos n0, lm_lt_eq, hM 12 (by omega), ev_add]
      exact ⟨_, rfl, Mo_u hM 12 _, Fr.rf.u _ _⟩
  | succ d ih =>
    intro n g μ x2 hM hK hR h0 hk hn
    cases n with
    | zero => omega
    | succ n =>
      rw [F_X7_makesRoom_L8, mrD]
      obtain ⟨f1, f2, f3⟩ := fir_spec g sp
      by_cases hf : fir g sp < 10
      · have n0 : ¬ nk (-4) (fir g sp) < 0 := by rw [nk, if_pos hf]; exact nI_pos (by omega)
        have hw : wei g ≤ 220 := wD_le hR.1 10 0
        rw [lm_br, if_neg n0, o_weights hM hK.b hR, lm_bd_some, hM 0 (by omega), lm_br]
        by_cases hb : g 0 < wei g
        · obtain ⟨f4, f5⟩ := f2 hf
          rw [if_neg (nI_ge hb (by omega)), if_pos ⟨hf, hb⟩, show nk (-4) (fir g sp) = nI (fir g sp) from if_pos hf]
          have e1 : (97 : Int32) + nI (fir g sp) = nI (97 + fir g sp) := nI_add 97 _
          have e2 : nI x2 + 1 = nI (x2 + 1) := nI_1 x2
          rw [e1, ev_gi (by omega) (by omega), ev_cl (by omega), lm_lt_eq, e2]
          have hM2 := Mo_u hM (97 + fir g sp) 0
          have hT : Teq g (un g (97 + fir g sp) 0) := Teq_un 0 hR.1 (by omega)
          have hK2 := Kc_lose hK hf
          rw [show (0 : Int32) = nI 0 from rfl, o_first hM2 hK2 hsp, lm_bd_some]
          obtain ⟨μ', h1, h2, h3⟩ := ih n (un g (97 + fir g sp) 0) _ (x2 + 1) hM2 hK2 (hT.rin hR) (by rw [un_ne _ _ (by omega)]; exact h0) (by
            have := kD_lose f5 10 0 (by omega) (by omega)
            unfold kno at hk ⊢
            omega) (by omega)
          exact ⟨μ', h1, h2, (Fr.rf.u _ _).trans h3⟩
        · rw [if_pos (nI_le (by omega) (by omega)), if_neg (fun q => hb q.2), lm_lt_eq, hM 12 (by omega), ev_add]
          exact ⟨_, rfl, Mo_u hM 12 _, Fr.rf.u _ _⟩
      · have n0 : nk (-4) (fir g sp) < 0 := by rw [nk, if_neg hf]; decide
        rw [lm_br, if_pos n0, if_neg (fun q => hf q.1), lm_lt_eq, hM 12 (by omega), ev_add]
        exact ⟨_, rfl, Mo_u hM 12 _, Fr.rf.u _ _⟩
theorem o_makesRoom {sp : Nat} {but : Int32} (hsp : (sp < 10 ∧ but = nI sp) ∨ (10 ≤ sp ∧ but = -4)) (hM : Mo μ g) (hK : Kc g) (hR : Rin g) (h0 : g 0 ≤ 60) : ∃ μ', F_X7_makesRoom μ but = some (nI (mr g sp).2, μ') ∧ Mo μ' (mr g sp).1 ∧ Fr μ μ' := by
  unfold F_X7_makesRoom
  rw [o_first hM hK hsp, lm_bd_some]
  exact o_makesRoom_L hsp 10 1000 g μ 0 hM hK hR h0 (kD_le g 10 0) (by omega)
/-- all are forgotten, from k on -/
def laF (g : Nat → Nat) (d k : Nat) : Nat → Nat := fun j => if 97 + k ≤ j ∧ j < 97 + k + d then 0 else if j = 13 then g 13 + kD g d k else g j
def la (g : Nat → Nat) : Nat → Nat := laF g 10 0
/-- one is thrown out -/
def to (g : Nat → Nat) (k : Nat) : Nat → Nat := if 0 < g (97 + k) then un (un g (97 + k) 0) 13 (g 13 + 1) else g
theorem o_throwsOut (hM : Mo μ g) {k : Nat} (hk : k < 10) (hb : g (97 + k) < 2147483648) : ∃ μ', F_X7_throwsOut μ (nI k) = some (nI (if 0 < g (97 + k) then 1 else 0), μ') ∧ Mo μ' (to g k) ∧ Fr μ μ' := by
  unfold F_X7_throwsOut to
  rw [o_isKnown hM hk hb, lm_bd_some]
  by_cases h : 0 < g (97 + k)
  · have e1 : (97 : Int32) + nI k = nI (97 + k) := nI_add 97 _
    rw [if_pos h, if_pos h, if_pos h, lm_br, if_pos (by decide), e1, ev_gi (by omega) (by omega), ev_cl (by omega), lm_lt_eq, lm_lt_eq, lu_ne _ _ (by omega), hM 13 (by omega), nI_1]
    have hM2 := Mo_u (Mo_u hM (97 + k) 0) 13 (g 13 + 1)
    exact ⟨_, rfl, hM2, (Fr.rf.u _ _).u _ _⟩
  · rw [if_neg h, if_neg h, if_neg h, lm_br, if_neg (by decide)]
    exact ⟨_, rfl, hM, Fr.rf⟩
theorem o_throwsAll_L : ∀ d n (g : Nat → Nat) (μ : Hp) k acc, Mo μ g → Kb g → k + d = 10 → d < n → ∃ μ', F_X7_throwsAll_L4 n μ (nI acc) (nI k) = some (nI (acc + kD g d k), μ') ∧ Mo μ' (laF g d k) ∧ Fr μ μ' := by
  intro d
  induction d with
  | zero =>
    intro n g μ k acc hM hK hr hn
    cases n with
    | zero => omega
    | succ n =>
      rw [F_X7_throwsAll_L4, kD]
      simp (disch := omega) only [lm_br, lm_bd_some, lm_b2_some, lm_lt_eq, ev_gi, ev_cl, ev_add, ev_mul, ev_sub, ev_lt_t, ev_lt_f, ev_le_t, ev_le_f, ev_eq_t, ev_eq_f, if_true, if_false, ite_true, ite_false, not_true, not_false_eq_true, eq_self, and_self, and_true, true_and, and_false, false_and, or_true, true_or, or_false, false_or, Bool.false_eq_true, reduceIte, ev_k0, ev_k1, ev_k2, ev_k3, ev_k4, ev_k5, ev_k6, ev_k7, ev_k8, ev_k9, ev_k10, ev_k11, ev_k12, ev_k13, ev_k14, ev_k15, ev_k16, ev_k17, ev_k18, ev_k19, ev_k20, ev_k33, ev_k43, ev_k44, ev_k45, ev_k48, ev_k57, ev_k58, ev_k59, ev_k60, ev_k97, ev_k99, ev_k107, ev_k114, ev_k115, ev_k117, ev_k124, ev_k126, ev_k127, ev_k381, ev_k508, hM]
      refine ⟨_, rfl, Mo_eq hM fun j hj => ?_, Fr.rf⟩
      rw [laF, if_neg (by omega), kD]
      split
      · next e => rw [e]; rfl
      · rfl
  | succ d ih =>
    intro n g μ k acc hM hK hr hn
    cases n with
    | zero => omega
    | succ n =>
      rw [F_X7_throwsAll_L4, kD]
      obtain ⟨μ1, h1, h2, h3⟩ := o_throwsOut hM (k := k) (by omega) (hK k (by omega))
      have k10 : ¬ (10 : Int32) ≤ nI k := by rw [ev_k10]; exact nI_ge (by omega) (by omega)
      rw [lm_br, if_neg k10, h1, lm_b2_some, ev_add, nI_1]
      have hto : ∀ i, i ≠ 97 + k → i ≠ 13 → to g k i = g i := by
        intro i a b
        unfold to
        split
        · rw [un_ne _ _ b, un_ne _ _ a]
        · rfl
      obtain ⟨μ', i1, i2, i3⟩ := ih n (to g k) μ1 (k + 1) _ h2 (fun i hi => by
        by_cases e : i = k
        · subst e
          unfold to
          split
          · rw [un_ne _ _ (by omega), un_same]; omega
          · exact hK i hi
        · rw [hto _ (by omega) (by omega)]; exact hK i hi) (by omega) (by omega)
      have ek : kD (to g k) d (k + 1) = kD g d (k + 1) := kD_congr d (k + 1) fun i a b => by rw [hto _ (by omega) (by omega)]
      rw [i1, ek]
      refine ⟨μ', by congr 3; omega, Mo_eq i2 fun j hj => ?_, h3.trans i3⟩
      unfold laF
      rw [ek, kD]
      by_cases c1 : 97 + (k + 1) ≤ j ∧ j < 97 + (k + 1) + d
      · rw [if_pos (by omega), if_pos c1]
      · rw [if_neg c1]
        by_cases c2 : j = 97 + k
        · subst c2
          rw [if_pos (by omega), if_neg (by omega)]
          unfold to
          split
          · rw [un_ne _ _ (by omega), un_same]
          · omega
        · rw [if_neg (by omega)]
          by_cases c3 : j = 13
          · subst c3
            rw [if_pos rfl, if_pos rfl]
            unfold to
            split
            · rw [un_same]; omega
            · omega
          · rw [if_neg c3, if_neg c3, hto j c2 c3]
theorem o_throwsAll (hM : Mo μ g) (hK : Kb g) : ∃ μ', F_X7_throwsAll μ = some (nI (kno g), μ') ∧ Mo μ' (la g) ∧ Fr μ μ' := by
  unfold F_X7_throwsAll
  obtain ⟨μ', h1, h2, h3⟩ := o_throwsAll_L 10 1000 g μ 0 0 hM hK (by omega) (by omega)
  refine ⟨μ', ?_, h2, h3⟩
  rw [show (0 : Int32) = nI 0 from rfl, h1, Nat.zero_add]
  rfl
end OR
