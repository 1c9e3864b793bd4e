/-! throwing out, making room, keeping: the reference -/
/-- same inner table and band -/
def Teq (g g' : Nat → Nat) : Prop := g' 5 = g 5 ∧ g' 3 = g 3 ∧ g' 4 = g 4 ∧ ∀ i, i < g 5 → g' (17 + 2 * i) = g (17 + 2 * i) ∧ g' (18 + 2 * i) = g (18 + 2 * i)
theorem teq_mt {g g' : Nat → Nat} (h : Teq g g') (k : Nat) {i : Nat} (hi : i < g 5) : mt g' k i = mt g k i := by
  obtain ⟨-, h3, h4, hr⟩ := h
  obtain ⟨a, b⟩ := hr i hi
  unfold mt
  rw [h3, h4, a, b]
theorem cD_congr {g g' : Nat → Nat} {k : Nat} : ∀ d r, (∀ i, r ≤ i → i < r + d → mt g' k i = mt g k i) → cD g' k d r = cD g k d r
  | 0, _, _ => rfl
  | d + 1, r, h => by rw [cD, cD, h r (by omega) (by omega), cD_congr d (r + 1) (fun i h1 h2 => h i (by omega) (by omega))]
theorem sD_congr {g g' : Nat → Nat} {k : Nat} : ∀ d r, (∀ i, r ≤ i → i < r + d → mt g' k i = mt g k i ∧ g' (18 + 2 * i) = g (18 + 2 * i)) → sD g' k d r = sD g k d r
  | 0, _, _ => rfl
  | d + 1, r, h => by rw [sD, sD, (h r (by omega) (by omega)).1, (h r (by omega) (by omega)).2, sD_congr d (r + 1) (fun i h1 h2 => h i (by omega) (by omega))]
theorem fD_congr {g g' : Nat → Nat} {k : Nat} : ∀ d r, (∀ i, r ≤ i → i < r + d → mt g' k i = mt g k i) → fD g' k d r = fD g k d r
  | 0, _, _ => rfl
  | d + 1, r, h => by rw [fD, fD, h r (by omega) (by omega), fD_congr d (r + 1) (fun i h1 h2 => h i (by omega) (by omega))]
theorem teq_cnt {g g' : Nat → Nat} (h : Teq g g') (k : Nat) : cnt g' k = cnt g k := by
  unfold cnt
  rw [h.1]
  exact cD_congr _ _ fun i _ h2 => teq_mt h k (by omega)
theorem teq_sm {g g' : Nat → Nat} (h : Teq g g') (k : Nat) : sm g' k = sm g k := by
  unfold sm
  rw [h.1]
  exact sD_congr _ _ fun i _ h2 => ⟨teq_mt h k (by omega), (h.2.2.2 i (by omega)).2⟩
theorem teq_fs {g g' : Nat → Nat} (h : Teq g g') (k : Nat) : fs g' k = fs g k := by
  unfold fs
  rw [h.1]
  exact fD_congr _ _ fun i _ h2 => teq_mt h k (by omega)
theorem Teq.mt {g g' : Nat → Nat} (h : Teq g g') (k : Nat) {i : Nat} (hi : i < g 5) : mt g' k i = mt g k i := teq_mt h k hi
theorem Teq.cnt {g g' : Nat → Nat} (h : Teq g g') (k : Nat) : cnt g' k = cnt g k := teq_cnt h k
theorem Teq.sm {g g' : Nat → Nat} (h : Teq g g') (k : Nat) : sm g' k = sm g k := teq_sm h k
theorem Teq.fs {g g' : Nat → Nat} (h : Teq g g') (k : Nat) : fs g' k = fs g k := teq_fs h k
theorem Teq.rin {g g' : Nat → Nat} (h : Teq g g') (hR : Rin g) : Rin g' := by
  obtain ⟨a, b, c, d⟩ := h
  obtain ⟨h5, h3, h4, hr⟩ := hR
  refine ⟨by omega, by omega, by omega, fun i hi => ?_⟩
  rw [(d i (by omega)).1, (d i (by omega)).2]
  exact hr i (by omega)
theorem Teq_un {g : Nat → Nat} {i : Nat} (x : Nat) (h5 : g 5 ≤ 20) (hi : 57 ≤ i ∨ (6 ≤ i ∧ i < 17) ∨ i < 3) : Teq g (un g i x) := by
  refine ⟨un_ne _ _ (by omega), un_ne _ _ (by omega), un_ne _ _ (by omega), fun r hr => ⟨un_ne _ _ (by omega), un_ne _ _ (by omega)⟩⟩
theorem Teq.trans {g g' g'' : Nat → Nat} (h : Teq g g') (h2 : Teq g' g'') : Teq g g'' := by
  obtain ⟨a, b, c, d⟩ := h
  obtain ⟨a2, b2, c2, d2⟩ := h2
  refine ⟨by omega, by omega, by omega, fun i hi => ?_⟩
  obtain ⟨e1, e2⟩ := d i hi
  obtain ⟨f1, f2⟩ := d2 i (by omega)
  exact ⟨by omega, by omega⟩
theorem Teq.rf {g : Nat → Nat} : Teq g g := ⟨rfl, rfl, rfl, fun _ _ => ⟨rfl, rfl⟩⟩
theorem wD_congr {g g' : Nat → Nat} (hT : Teq g g') : ∀ d k, (∀ i, k ≤ i → i < k + d → (0 < g' (97 + i) ↔ 0 < g (97 + i))) → wD g' d k = wD g d k
  | 0, _, _ => rfl
  | d + 1, k, h => by
    rw [wD, wD, wD_congr hT d (k + 1) (fun i h1 h2 => h i (by omega) (by omega)), hT.cnt]
    have := h k (by omega) (by omega)
    by_cases q : 0 < g (97 + k)
    · rw [if_pos q, if_pos (this.mpr q)]
    · rw [if_neg q, if_neg (fun z => q (this.mp z))]
theorem kD_congr {g g' : Nat → Nat} : ∀ d k, (∀ i, k ≤ i → i < k + d → (0 < g' (97 + i) ↔ 0 < g (97 + i))) → kD g' d k = kD g d k
  | 0, _, _ => rfl
  | d + 1, k, h => by
    rw [kD, kD, kD_congr d (k + 1) (fun i h1 h2 => h i (by omega) (by omega))]
    have := h k (by omega) (by omega)
    by_cases q : 0 < g (97 + k)
    · rw [if_pos q, if_pos (this.mpr q)]
    · rw [if_neg q, if_neg (fun z => q (this.mp z))]
theorem kD_le (g : Nat → Nat) : ∀ d k, kD g d k ≤ d
  | 0, _ => Nat.le_refl 0
  | d + 1, k => by
    have := kD_le g d (k + 1)
    rw [kD]
    split <;> omega
theorem wD_le {g : Nat → Nat} (h5 : g 5 ≤ 20) : ∀ d k, wD g d k ≤ 22 * d
  | 0, _ => Nat.le_refl 0
  | d + 1, k => by
    have := wD_le h5 d (k + 1)
    have hc : cnt g k ≤ 20 := Nat.le_trans (cD_le g k _ _) h5
    rw [wD]
    split <;> omega
/-- what one weighs less, when a known one is thrown out -/
theorem kD_lose {g : Nat → Nat} {j : Nat} (hj : 0 < g (97 + j)) : ∀ d k, k ≤ j → j < k + d → kD (un g (97 + j) 0) d k + 1 = kD g d k
  | 0, k, h1, h2 => by omega
  | d + 1, k, h1, h2 => by
    rw [kD, kD]
    by_cases e : k = j
    · subst e
      rw [un_same, if_neg (by omega), if_pos hj, kD_congr (g := g) (g' := un g (97 + k) 0) d (k + 1) (fun i a b => by rw [un_ne _ _ (by omega)])]
      omega
    · rw [un_ne _ _ (by omega)]
      have := kD_lose hj d (k + 1) (by omega) (by omega)
      omega
theorem wD_lose {g : Nat → Nat} (h5 : g 5 ≤ 20) {j : Nat} (hj : 0 < g (97 + j)) : ∀ d k, k ≤ j → j < k + d → wD (un g (97 + j) 0) d k + (2 + cnt g j) = wD g d k
  | 0, k, h1, h2 => by omega
  | d + 1, k, h1, h2 => by
    have hT : Teq g (un g (97 + j) 0) := Teq_un 0 h5 (by omega)
    rw [wD, wD]
    by_cases e : k = j
    · subst e
      rw [un_same, if_neg (by omega), if_pos hj, wD_congr hT d (k + 1) (fun i a b => by rw [un_ne _ _ (by omega)])]
      omega
    · rw [un_ne _ _ (by omega), hT.cnt]
      have := wD_lose h5 hj d (k + 1) (by omega) (by omega)
      omega
theorem kD_none {g : Nat → Nat} : ∀ d k, kD g d k = 0 → ∀ i, k ≤ i → i < k + d → ¬ 0 < g (97 + i)
  | 0, k, _, i, h1, h2 => by omega
  | d + 1, k, h, i, h1, h2 => by
    rw [kD] at h
    by_cases e : i = k
    · subst e
      intro q
      rw [if_pos q] at h
      omega
    · exact kD_none d (k + 1) (by omega) i (by omega) (by omega)
/-- frame: the other cells of the reference -/
def Fr (μ μ' : Hp) : Prop := ∀ c, c ≠ 1 → μ' c = μ c
theorem Fr.rf {μ : Hp} : Fr μ μ := fun _ _ => rfl
theorem Fr.u {μ μ' : Hp} (h : Fr μ μ') (i : Nat) (x : Int32) : Fr μ (lm_u μ' 1 i x) := fun c hc => by rw [lu_c _ _ _ hc, h c hc]
theorem Fr.trans {μ μ' μ'' : Hp} (h : Fr μ μ') (h2 : Fr μ' μ'') : Fr μ μ'' := fun c hc => by rw [h2 c hc, h c hc]
theorem Mo_eq {μ : Hp} {g g' : Nat → Nat} (h : Mo μ g) (e : ∀ j, j < 127 → g' j = g j) : Mo μ g' := fun j hj => by rw [e j hj]; exact h j hj
theorem Kc_un {g : Nat → Nat} (h : Kc g) {i : Nat} (hi : i < 97 ∨ 127 ≤ i) (h1 : i ≠ 1) (x : Nat) : Kc (un g i x) := by
  refine ⟨by rw [un_ne _ _ (by omega)]; exact h.1, fun k hk => ?_⟩
  rw [un_ne _ _ (by omega), un_ne _ _ (by omega), un_ne _ _ (by omega)]
  exact h.2 k hk
theorem Kc_lose {g : Nat → Nat} (h : Kc g) {j : Nat} (hj : j < 10) : Kc (un g (97 + j) 0) := by
  refine ⟨by rw [un_ne _ _ (by omega)]; exact h.1, fun k hk => ?_⟩
  rw [un_ne _ _ (show 107 + k ≠ 97 + j by omega), un_ne _ _ (show 117 + k ≠ 97 + j by omega)]
  by_cases e : k = j
  · subst e
    rw [un_same]
    exact ⟨by omega, fun q => by omega⟩
  · rw [un_ne _ _ (by omega)]
    exact h.2 k hk
/-- making room: d stands above what can be thrown out -/
def mrD (sp : Nat) : Nat → (Nat → Nat) → Nat → (Nat → Nat) × Nat
  | 0, g, n => (g, n)
  | d + 1, g, n => if fir g sp < 10 ∧ g 0 < wei g then mrD sp d (un g (97 + fir g sp) 0) (n + 1) else (g, n)
def mr (g : Nat → Nat) (sp : Nat) : (Nat → Nat) × Nat := (un (mrD sp 10 g 0).1 12 ((mrD sp 10 g 0).1 12 + (mrD sp 10 g 0).2), (mrD sp 10 g 0).2)
theorem fir_spec (g : Nat → Nat) (sp : Nat) : fir g sp ≤ 10 ∧ (fir g sp < 10 → fir g sp ≠ sp ∧ 0 < g (97 + fir g sp)) ∧ (fir g sp = 10 → ∀ j, j < 10 → j ≠ sp → ¬ 0 < g (97 + j)) := by
  obtain ⟨h1, h2, h3⟩ := pD_spec (knb g) (ah g) sp 10 0 10 (by omega) (by omega) (by omega)
  refine ⟨h1, fun h => ⟨(h2 h).1, of_decide_eq_true (h2 h).2⟩, fun h j hj hs q => ?_⟩
  exact (h3 h).2 j (by omega) hj ⟨hs, by simp [knb, q]⟩
section OR
variable {μ : Hp} {g : Nat → Nat}
/-- all are forgotten, from k on -/
def laF (g : Nat → Nat) (d k : Nat) : Nat → Nat := fun j => if 97 + k ≤ j ∧ j < 97 + k + d then 0 else if j = 13 then g 13 + kD g d k else g j
def la (g : Nat → Nat) : Nat → Nat := laF g 10 0
/-- one is thrown out -/
def to (g : Nat → Nat) (k : Nat) : Nat → Nat := if 0 < g (97 + k) then un (un g (97 + k) 0) 13 (g 13 + 1) else g
end OR

