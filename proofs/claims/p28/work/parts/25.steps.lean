/-! steps: the reference; the bounds stay -/
/-- but the counts and the memory all is as it was -/
def Sm (g g' : Nat → Nat) : Prop := ∀ j, j < 97 → ¬ (9 ≤ j ∧ j ≤ 16) → g' j = g j
theorem Sm.rin {g g' : Nat → Nat} (h : Sm g g') (hR : Rin g) : Rin g' := by
  obtain ⟨h5, h3, h4, hr⟩ := hR
  have e5 := h 5 (by omega) (by omega)
  have e3 := h 3 (by omega) (by omega)
  have e4 := h 4 (by omega) (by omega)
  refine ⟨by omega, by omega, by omega, fun i hi => ?_⟩
  rw [h (17 + 2 * i) (by omega) (by omega), h (18 + 2 * i) (by omega) (by omega)]
  exact hr i (by omega)
theorem Sm.rou {g g' : Nat → Nat} (h : Sm g g') (hO : Rou g) : Rou g' := by
  obtain ⟨h6, h7, hr⟩ := hO
  have e6 := h 6 (by omega) (by omega)
  have e7 := h 7 (by omega) (by omega)
  refine ⟨by omega, by omega, fun i hi => ?_⟩
  rw [h (57 + 2 * i) (by omega) (by omega), h (58 + 2 * i) (by omega) (by omega)]
  exact hr i (by omega)
theorem Sm.teq {g g' : Nat → Nat} (h : Sm g g') (h5 : g 5 ≤ 20) : Teq g g' := ⟨h 5 (by omega) (by omega), h 3 (by omega) (by omega), h 4 (by omega) (by omega), fun i hi => ⟨h _ (by omega) (by omega), h _ (by omega) (by omega)⟩⟩
theorem Sm.rf {g : Nat → Nat} : Sm g g := fun _ _ _ => rfl
theorem Sm.trans {g g' g'' : Nat → Nat} (h : Sm g g') (h2 : Sm g' g'') : Sm g g'' := fun j a b => by rw [h2 j a b, h j a b]
theorem Sm.un {g g' : Nat → Nat} (h : Sm g g') {i : Nat} (x : Nat) (hi : 97 ≤ i ∨ (9 ≤ i ∧ i ≤ 16)) : Sm g (un g' i x) := fun j a b => by rw [un_ne _ _ (by omega), h j a b]
theorem Sm.mr {g g' : Nat → Nat} (h : Sm g g') (sp : Nat) : Sm g (mr g' sp).1 := fun j a b => by rw [mr_other (by omega) (by omega), h j a b]
theorem lk_Sm (g : Nat → Nat) (k : Nat) : Sm g (lk g k).1 := by
  unfold lk
  split
  · exact (((Sm.rf.un _ (by omega)).un _ (by omega)).un _ (by omega)).un _ (by omega)
  · split
    · exact Sm.mr (((((Sm.rf.un _ (by omega)).un _ (by omega)).un _ (by omega)).un _ (by omega)).un _ (by omega)) _
    · exact ((Sm.rf.un _ (by omega)).un _ (by omega)).un _ (by omega)
theorem mrD_times {sp : Nat} : ∀ d (g : Nat → Nat) n i, (mrD sp d g n).1 (97 + i) = g (97 + i) ∨ (mrD sp d g n).1 (97 + i) = 0
  | 0, _, _, _ => Or.inl rfl
  | d + 1, g, n, i => by
    rw [mrD]
    split
    · rcases mrD_times (sp := sp) d (un g (97 + fir g sp) 0) (n + 1) i with h | h
      · rw [h]
        by_cases e : i = fir g sp
        · rw [e, un_same]; exact Or.inr rfl
        · rw [un_ne _ _ (by omega)]; exact Or.inl rfl
      · exact Or.inr h
    · exact Or.inl rfl
theorem mr_times (g : Nat → Nat) (sp i : Nat) (hi : i < 10) : (mr g sp).1 (97 + i) = g (97 + i) ∨ (mr g sp).1 (97 + i) = 0 := by
  unfold mr
  show un _ 12 _ (97 + i) = _ ∨ un _ 12 _ (97 + i) = _
  rw [un_ne _ _ (by omega)]
  exact mrD_times 10 g 0 i
theorem mr_Kn {g : Nat → Nat} (h : Kn g) (sp : Nat) : Kn (mr g sp).1 := by
  intro i hi
  obtain ⟨a1, a2⟩ := h i hi
  rw [mr_other (j := 16) (by omega) (by omega), mr_other (j := 107 + i) (by omega) (by omega), mr_other (j := 117 + i) (by omega) (by omega)]
  rcases mr_times g sp i hi with e | e
  · rw [e]; exact ⟨a1, a2⟩
  · rw [e]; exact ⟨by omega, fun q => by omega⟩
theorem Kn_un {g : Nat → Nat} (h : Kn g) {i : Nat} (x : Nat) (hi : i < 97 ∧ i ≠ 16) : Kn (un g i x) := by
  intro k hk
  rw [un_ne _ _ (by omega), un_ne _ _ (by omega), un_ne _ _ (by omega), un_ne _ _ (by omega)]
  exact h k hk
theorem Kn_16 {g : Nat → Nat} (h : Kn g) : Kn (un g 16 (g 16 + 1)) := by
  intro k hk
  rw [un_ne _ _ (show 97 + k ≠ 16 by omega), un_ne _ _ (show 107 + k ≠ 16 by omega), un_ne _ _ (show 117 + k ≠ 16 by omega), un_same]
  obtain ⟨a, b⟩ := h k hk
  exact ⟨by omega, fun q => by have := b q; omega⟩
theorem lkT_Kn {g : Nat → Nat} (h : Kn g) {k : Nat} (hk : k < 10) : Kn (lkT g k) ∧ lkT g k 16 = g 16 + 1 := by
  have hM : Kn (lkM g) := Kn_un (Kn_16 h) _ (by omega)
  have h16 : lkM g 16 = g 16 + 1 := by unfold lkM; rw [un_ne _ _ (by omega), un_same]
  constructor
  · intro i hi
    obtain ⟨a1, a2⟩ := hM i hi
    rw [h16] at a1 a2
    unfold lkT
    rw [un_ne _ _ (show 16 ≠ 117 + k by omega), un_ne _ _ (show 16 ≠ 107 + k by omega), un_ne _ _ (show 16 ≠ 97 + k by omega), h16]
    by_cases e : i = k
    · subst e
      rw [un_ne _ _ (show 97 + i ≠ 117 + i by omega), un_ne _ _ (show 97 + i ≠ 107 + i by omega), un_same, un_ne _ _ (show 107 + i ≠ 117 + i by omega), un_same, un_same]
      exact ⟨by omega, fun q => by omega⟩
    · rw [un_ne _ _ (show 97 + i ≠ 117 + k by omega), un_ne _ _ (show 97 + i ≠ 107 + k by omega), un_ne _ _ (show 97 + i ≠ 97 + k by omega), un_ne _ _ (show 107 + i ≠ 117 + k by omega), un_ne _ _ (show 107 + i ≠ 107 + k by omega), un_ne _ _ (show 107 + i ≠ 97 + k by omega), un_ne _ _ (show 117 + i ≠ 117 + k by omega), un_ne _ _ (show 117 + i ≠ 107 + k by omega), un_ne _ _ (show 117 + i ≠ 97 + k by omega)]
      exact ⟨a1, a2⟩
  · unfold lkT
    rw [un_ne _ _ (by omega), un_ne _ _ (by omega), un_ne _ _ (by omega), h16]
theorem lk_Kn {g : Nat → Nat} (h : Kn g) {k : Nat} (hk : k < 10) : Kn (lk g k).1 ∧ (lk g k).1 16 = g 16 + 1 := by
  unfold lk
  by_cases kn : 0 < g (97 + k)
  · rw [if_pos kn]
    obtain ⟨b1, b2⟩ := h k hk
    obtain ⟨b2, b3⟩ := b2 kn
    refine ⟨?_, ?_⟩
    · refine Kn_un (g := un (un (un g 16 (g 16 + 1)) (97 + k) (g (97 + k) + 1)) (107 + k) (g 16 + 1)) ?_ _ (by omega)
      intro i hi
      obtain ⟨a1, a2⟩ := h i hi
      rw [un_ne _ _ (show 16 ≠ 107 + k by omega), un_ne _ _ (show 16 ≠ 97 + k by omega), un_same]
      by_cases e : i = k
      · subst e
        rw [un_ne _ _ (show 97 + i ≠ 107 + i by omega), un_same, un_same, un_ne _ _ (show 117 + i ≠ 107 + i by omega), un_ne _ _ (show 117 + i ≠ 97 + i by omega), un_ne _ _ (show 117 + i ≠ 16 by omega)]
        exact ⟨by omega, fun _ => by omega⟩
      · rw [un_ne _ _ (show 97 + i ≠ 107 + k by omega), un_ne _ _ (show 97 + i ≠ 97 + k by omega), un_ne _ _ (show 97 + i ≠ 16 by omega), un_ne _ _ (show 107 + i ≠ 107 + k by omega), un_ne _ _ (show 107 + i ≠ 97 + k by omega), un_ne _ _ (show 107 + i ≠ 16 by omega), un_ne _ _ (show 117 + i ≠ 107 + k by omega), un_ne _ _ (show 117 + i ≠ 97 + k by omega), un_ne _ _ (show 117 + i ≠ 16 by omega)]
        exact ⟨by omega, fun q => by have := a2 q; omega⟩
    · show lkH g k 16 = _
      unfold lkH
      rw [un_ne _ _ (by omega), un_ne _ _ (by omega), un_ne _ _ (by omega), un_same]
  · rw [if_neg kn]
    have hM : Kn (lkM g) := Kn_un (Kn_16 h) _ (by omega)
    have h16 : lkM g 16 = g 16 + 1 := by unfold lkM; rw [un_ne _ _ (by omega), un_same]
    by_cases w : 2 + cnt g k ≤ g 0
    · rw [if_pos w]
      exact ⟨mr_Kn (lkT_Kn h hk).1 k, by rw [mr_other (by omega) (by omega)]; exact (lkT_Kn h hk).2⟩
    · rw [if_neg w]
      exact ⟨Kn_un hM _ (by omega), by dsimp only; rw [un_ne _ _ (by omega), h16]⟩
theorem lk_In {t c : Nat} {g : Nat → Nat} (hI : In t c g) (hc : c < 1000000) {k : Nat} (hk : k < 10) : In t (c + 1) (lk g k).1 := by
  obtain ⟨hR, hO, hKn, ⟨h0, h1, h2⟩, h8, h16, ht, _⟩ := hI
  have hS := lk_Sm g k
  obtain ⟨k1, k2⟩ := lk_Kn hKn hk
  refine ⟨hS.rin hR, hS.rou hO, k1, ⟨?_, ?_, ?_⟩, ?_, by omega, ht, by omega⟩
  · rw [hS 0 (by omega) (by omega)]; exact h0
  · rw [hS 1 (by omega) (by omega)]; exact h1
  · rw [hS 2 (by omega) (by omega)]; exact h2
  · rw [hS 8 (by omega) (by omega), hS 7 (by omega) (by omega)]; exact h8
theorem sD_le {g : Nat → Nat} (hR : Rin g) {k : Nat} : ∀ d r, r + d ≤ g 5 → sD g k d r ≤ 99 * d
  | 0, _, _ => Nat.le_refl 0
  | d + 1, r, h => by
    have := sD_le hR (k := k) d (r + 1) (by omega)
    have := (hR.2.2.2 r (by omega)).2
    rw [sD]
    split <;> omega
theorem sm_le {g : Nat → Nat} (hR : Rin g) (k : Nat) : sm g k ≤ 1980 := by
  have := sD_le hR (k := k) (g 5) 0 (by omega)
  have := hR.1
  unfold sm
  omega
/-- one step, where there is one -/
def s1 (g : Nat → Nat) : (Nat → Nat) × Nat := (un (un (lk g (g (57 + 2 * g 7))).1 8 (g 8 + g (58 + 2 * g 7) * sm g (g (57 + 2 * g 7)))) 7 (g 7 + 1), (lk g (g (57 + 2 * g 7))).2)
def stD : Nat → (Nat → Nat) → Nat → (Nat → Nat) × Nat
  | 0, g, c => (g, c)
  | d + 1, g, c => if g 7 < g 6 then stD d (s1 g).1 (c + (s1 g).2) else (g, c)
def stp (g : Nat → Nat) (n : Nat) : (Nat → Nat) × Nat := (un (stD n g 0).1 11 ((stD n g 0).1 11 + (stD n g 0).2), (stD n g 0).2)
theorem s1_In {t c : Nat} {g : Nat → Nat} (hI : In t c g) (hc : c < 1000000) (h : g 7 < g 6) : In t (c + 1) (s1 g).1 := by
  obtain ⟨hR, hO, hKn, hs, h8, h16, ht, _⟩ := id hI
  obtain ⟨hk, hv⟩ := hO.2.2 (g 7) h
  obtain ⟨jR, ⟨j6, j7, jr⟩, jK, js, j8, j16, -, jc⟩ := lk_In hI hc hk
  have hS := lk_Sm g (g (57 + 2 * g 7))
  have e7 := hS 7 (by omega) (by omega)
  have e6 := hS 6 (by omega) (by omega)
  have hm := sm_le hR (g (57 + 2 * g 7))
  have hmul : g (58 + 2 * g 7) * sm g (g (57 + 2 * g 7)) ≤ 99 * 1980 := Nat.mul_le_mul hv hm
  unfold s1
  dsimp only
  refine ⟨?_, ⟨?_, ?_, fun i hi => ?_⟩, Kn_un (Kn_un jK _ (by omega)) _ (by omega), ?_, ?_, ?_, ht, jc⟩
  · exact ((Teq_un _ jR.1 (by omega)).trans (Teq_un _ (by rw [un_ne _ _ (by omega)]; exact jR.1) (by omega))).rin jR
  · rw [un_ne _ _ (by omega), un_ne _ _ (by omega)]; exact j6
  · rw [un_same, un_ne _ _ (by omega), un_ne _ _ (by omega), e6]; omega
  · rw [un_ne _ _ (by omega), un_ne _ _ (by omega)] at hi
    rw [un_ne _ _ (by omega), un_ne _ _ (by omega), un_ne _ _ (by omega), un_ne _ _ (by omega)]
    exact jr i hi
  · rw [un_ne _ _ (by omega), un_ne _ _ (by omega), un_ne _ _ (by omega), un_ne _ _ (by omega), un_ne _ _ (by omega), un_ne _ _ (by omega)]
    exact js
  · rw [un_ne _ _ (by omega), un_same, un_same]
    omega
  · rw [un_ne _ _ (by omega), un_ne _ _ (by omega)]; exact j16
theorem stD_In {t : Nat} : ∀ d c (g : Nat → Nat) n, In t c g → c + d ≤ 1000000 → In t (c + d) (stD d g n).1
  | 0, _, _, _, h, _ => h
  | d + 1, c, g, n, h, hc => by
    rw [stD]
    split
    · next q =>
      have := stD_In d (c + 1) (s1 g).1 (n + (s1 g).2) (s1_In h (by omega) q) (by omega)
      rw [show c + (d + 1) = c + 1 + d by omega]
      exact this
    · obtain ⟨a, b, e, f, x, y, z, _⟩ := h
      dsimp only
      exact ⟨a, b, e, f, x, by omega, z, hc⟩
theorem In_un {t c : Nat} {g : Nat → Nat} (h : In t c g) {i : Nat} (x : Nat) (hi : 9 ≤ i ∧ i ≤ 15) : In t c (un g i x) := by
  obtain ⟨hR, hO, hKn, hs, h8, h16, ht, hc⟩ := h
  have hS : Sm g (un g i x) := Sm.rf.un x (by omega)
  refine ⟨hS.rin hR, hS.rou hO, Kn_un hKn _ (by omega), ?_, ?_, ?_, ht, hc⟩
  · rw [un_ne _ _ (by omega), un_ne _ _ (by omega), un_ne _ _ (by omega)]; exact hs
  · rw [un_ne _ _ (by omega), un_ne _ _ (by omega)]; exact h8
  · rw [un_ne _ _ (by omega)]; exact h16
theorem stp_In {t c : Nat} {g : Nat → Nat} (h : In t c g) {n : Nat} (hc : c + n ≤ 1000000) : In t (c + n) (stp g n).1 := In_un (stD_In n c g 0 h hc) _ (by omega)
section OS
variable {μ : Hp} {g : Nat → Nat}
end OS

