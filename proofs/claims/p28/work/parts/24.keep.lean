/-! keeping, looking up, stepping: the reference -/
def nbD (g : Nat → Nat) (a b : Nat) : Nat → Nat → Nat
  | 0, _ => 0
  | d + 1, k => (if (k = a ∨ k = b) ∧ 0 < g (97 + k) then 1 else 0) + nbD g a b d (k + 1)
def kpF (g : Nat → Nat) (a b d k : Nat) : Nat → Nat := fun j => if g 2 = 0 then (if 97 + k ≤ j ∧ j < 97 + k + d ∧ (j = 97 + a ∨ j = 97 + b) then 0 else if j = 13 then g 13 + nbD g a b d k else g j) else if g 2 = 2 then (if j = 15 then g 15 + nbD g a b d k else g j) else g j
def kp (g : Nat → Nat) (a b : Nat) : Nat → Nat := if g 2 = 1 then la g else kpF g a b 10 0
/-- what is done with one key -/
def kst (g : Nat → Nat) (a b k : Nat) : Nat → Nat := if k = a ∨ k = b then (if g 2 = 2 then un g 15 (g 15 + (if 0 < g (97 + k) then 1 else 0)) else if g 2 = 0 then to g k else g) else g
theorem nbD_congr {g g' : Nat → Nat} {a b : Nat} : ∀ d k, (∀ i, k ≤ i → i < k + d → (0 < g' (97 + i) ↔ 0 < g (97 + i))) → nbD g' a b d k = nbD g a b d k
  | 0, _, _ => rfl
  | d + 1, k, h => by
    rw [nbD, nbD, nbD_congr d (k + 1) (fun i h1 h2 => h i (by omega) (by omega))]
    have := h k (by omega) (by omega)
    by_cases q : (k = a ∨ k = b) ∧ 0 < g (97 + k)
    · rw [if_pos q, if_pos ⟨q.1, this.mpr q.2⟩]
    · rw [if_neg q, if_neg (fun z => q ⟨z.1, this.mp z.2⟩)]
theorem kst_other {g : Nat → Nat} {a b k j : Nat} (h1 : j ≠ 97 + k) (h2 : j ≠ 13) (h3 : j ≠ 15) : kst g a b k j = g j := by
  unfold kst to
  split
  · split
    · rw [un_ne _ _ h3]
    · split
      · split
        · rw [un_ne _ _ h2, un_ne _ _ h1]
        · rfl
      · rfl
  · rfl
theorem kst_val (g : Nat → Nat) (a b k j : Nat) : kst g a b k j = if k = a ∨ k = b then (if g 2 = 2 then (if j = 15 then g 15 + (if 0 < g (97 + k) then 1 else 0) else g j) else if g 2 = 0 then (if 0 < g (97 + k) then (if j = 13 then g 13 + 1 else if j = 97 + k then 0 else g j) else g j) else g j) else g j := by
  unfold kst to
  by_cases c : k = a ∨ k = b
  · rw [if_pos c, if_pos c]
    by_cases c2 : g 2 = 2
    · rw [if_pos c2, if_pos c2]
      rfl
    · rw [if_neg c2, if_neg c2]
      by_cases c0 : g 2 = 0
      · rw [if_pos c0, if_pos c0]
        by_cases kn : 0 < g (97 + k)
        · rw [if_pos kn, if_pos kn]
          rfl
        · rw [if_neg kn, if_neg kn]
      · rw [if_neg c0, if_neg c0]
  · rw [if_neg c, if_neg c]
theorem kst_F {g : Nat → Nat} {a b k d : Nat} (hk : k < 10) (j : Nat) : kpF (kst g a b k) a b d (k + 1) j = kpF g a b (d + 1) k j := by
  have en : nbD (kst g a b k) a b d (k + 1) = nbD g a b d (k + 1) := nbD_congr d (k + 1) fun i h1 h2 => by rw [kst_other (by omega) (by omega) (by omega)]
  have e2 : kst g a b k 2 = g 2 := kst_other (by omega) (by omega) (by omega)
  unfold kpF
  rw [en, e2, nbD]
  rw [kst_val, kst_val, kst_val]
  by_cases j1 : j = 97 + k
  · subst j1
    repeat' split
    all_goals omega
  · by_cases j2 : j = 13
    · subst j2
      repeat' split
      all_goals omega
    · by_cases j3 : j = 15
      · subst j3
        repeat' split
        all_goals omega
      · repeat' split
        all_goals first | rfl | omega
theorem kst_Kb {g : Nat → Nat} (h : Kb g) {a b k : Nat} (hk : k < 10) : Kb (kst g a b k) := by
  intro i hi
  by_cases e : i = k
  · subst e
    unfold kst to
    split
    · split
      · rw [un_ne _ _ (by omega)]; exact h i hi
      · split
        · split
          · rw [un_ne _ _ (by omega), un_same]; omega
          · exact h i hi
        · exact h i hi
    · exact h i hi
  · rw [kst_other (by omega) (by omega) (by omega)]
    exact h i hi
section OK
variable {μ : Hp} {g : Nat → Nat}
theorem un_self (g : Nat → Nat) (i j : Nat) : un g i (g i + 0) j = g j := by
  by_cases e : j = i
  · rw [e, un_same, Nat.add_zero]
  · rw [un_ne _ _ e]
theorem la_2 (g : Nat → Nat) : la g 2 = g 2 := by
  unfold la laF
  rw [if_neg (by omega), if_neg (by omega)]
theorem la_Kb {g : Nat → Nat} (h : Kb g) : Kb (la g) := by
  intro k hk
  unfold la laF
  rw [if_pos (by omega)]
  omega
/-- looking up -/
def lkH (g : Nat → Nat) (k : Nat) : Nat → Nat := un (un (un (un g 16 (g 16 + 1)) (97 + k) (g (97 + k) + 1)) (107 + k) (g 16 + 1)) 9 (g 9 + 1)
def lkM (g : Nat → Nat) : Nat → Nat := un (un g 16 (g 16 + 1)) 10 (g 10 + 1)
def lkT (g : Nat → Nat) (k : Nat) : Nat → Nat := un (un (un (lkM g) (97 + k) 1) (107 + k) (g 16 + 1)) (117 + k) (g 16 + 1)
def lk (g : Nat → Nat) (k : Nat) : (Nat → Nat) × Nat := if 0 < g (97 + k) then (lkH g k, 1) else if 2 + cnt g k ≤ g 0 then ((mr (lkT g k) k).1, 2 + g 5) else (un (lkM g) 14 (g 14 + 1), 2 + g 5)
theorem mrD_other {sp : Nat} : ∀ d (g : Nat → Nat) n j, ¬ (97 ≤ j ∧ j < 107) → (mrD sp d g n).1 j = g j
  | 0, _, _, _, _ => rfl
  | d + 1, g, n, j, h => by
    rw [mrD]
    split
    · next c =>
      rw [mrD_other d _ _ j h, un_ne _ _ (by omega)]
    · rfl
theorem mr_other {g : Nat → Nat} {sp j : Nat} (h : ¬ (97 ≤ j ∧ j < 107)) (h2 : j ≠ 12) : (mr g sp).1 j = g j := by
  unfold mr
  show un _ 12 _ j = g j
  rw [un_ne _ _ h2, mrD_other _ _ _ _ h]
theorem mrD_le {sp : Nat} : ∀ d (g : Nat → Nat) n, (mrD sp d g n).2 ≤ n + d
  | 0, _, _ => Nat.le_refl _
  | d + 1, g, n => by
    rw [mrD]
    split
    · have := mrD_le (sp := sp) d (un g (97 + fir g sp) 0) (n + 1)
      omega
    · omega
theorem mr_le (g : Nat → Nat) (sp : Nat) : (mr g sp).2 ≤ 10 := by
  have := mrD_le (sp := sp) 10 g 0
  unfold mr
  omega
theorem lkM_Teq {g : Nat → Nat} (h5 : g 5 ≤ 20) : Teq g (lkM g) := (Teq_un _ h5 (by omega)).trans (Teq_un _ (by rw [un_ne _ _ (by omega)]; exact h5) (by omega))
theorem lkT_Teq {g : Nat → Nat} (h5 : g 5 ≤ 20) {k : Nat} (hk : k < 10) : Teq g (lkT g k) := by
  have h := lkM_Teq h5
  have e : ∀ {g' : Nat → Nat} {i : Nat} (x : Nat), Teq g g' → 57 ≤ i → Teq g (un g' i x) := fun x hT hi => hT.trans (Teq_un x (by rw [hT.1]; exact h5) (by omega))
  exact e _ (e _ (e _ h (by omega)) (by omega)) (by omega)
theorem Kn.c {g : Nat → Nat} (h : Kn g) (h1 : g 1 ≤ 2) (h16 : g 16 ≤ 1000000) : Kc g := ⟨h1, fun k hk => ⟨by have := (h k hk).1; omega, fun q => by have := (h k hk).2 q; omega⟩⟩
theorem lkT_Kc {g : Nat → Nat} (h : Kn g) (h1 : g 1 ≤ 2) (h16 : g 16 ≤ 1000000) {k : Nat} (hk : k < 10) : Kc (lkT g k) := by
  unfold lkT lkM
  refine ⟨?_, fun i hi => ?_⟩
  · repeat rw [un_ne _ _ (by omega)]
    exact h1
  · obtain ⟨a1, a2⟩ := h i hi
    by_cases e : i = k
    · subst e
      rw [un_ne _ _ (show 97 + i ≠ 117 + i by omega), un_ne _ _ (show 97 + i ≠ 107 + i by omega), un_same, un_ne _ _ (show 107 + i ≠ 117 + i by omega), un_same, un_same]
      exact ⟨by omega, fun _ => by omega⟩
    · rw [un_ne _ _ (show 97 + i ≠ 117 + k by omega), un_ne _ _ (show 97 + i ≠ 107 + k by omega), un_ne _ _ (show 97 + i ≠ 97 + k by omega), un_ne _ _ (show 97 + i ≠ 10 by omega), un_ne _ _ (show 97 + i ≠ 16 by omega)]
      rw [un_ne _ _ (show 107 + i ≠ 117 + k by omega), un_ne _ _ (show 107 + i ≠ 107 + k by omega), un_ne _ _ (show 107 + i ≠ 97 + k by omega), un_ne _ _ (show 107 + i ≠ 10 by omega), un_ne _ _ (show 107 + i ≠ 16 by omega)]
      rw [un_ne _ _ (show 117 + i ≠ 117 + k by omega), un_ne _ _ (show 117 + i ≠ 107 + k by omega), un_ne _ _ (show 117 + i ≠ 97 + k by omega), un_ne _ _ (show 117 + i ≠ 10 by omega), un_ne _ _ (show 117 + i ≠ 16 by omega)]
      exact ⟨by omega, fun q => by have := a2 q; omega⟩
end OK

