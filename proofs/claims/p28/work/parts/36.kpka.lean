/-! keeping true: one key, then the other -/
section CKP
variable {g : Nat → Nat}
/-- one key is kept true -/
def ka (g : Nat → Nat) (k : Nat) : Nat → Nat := if 0 < g (97 + k) then (if g 2 = 2 then un g 15 (g 15 + 1) else un (un g (97 + k) 0) 13 (g 13 + 1)) else g
theorem nb_eq (g : Nat → Nat) (a b : Nat) : ∀ d k, nbD g a b d k = (if k ≤ a ∧ a < k + d ∧ 0 < g (97 + a) then 1 else 0) + (if k ≤ b ∧ b < k + d ∧ b ≠ a ∧ 0 < g (97 + b) then 1 else 0)
  | 0, k => by
    rw [nbD, if_neg (by omega), if_neg (by omega)]
  | d + 1, k => by
    rw [nbD, nb_eq g a b d (k + 1)]
    by_cases e1 : k = a
    · subst e1
      by_cases e2 : b = k
      · subst e2
        repeat' split
        all_goals omega
      · repeat' split
        all_goals omega
    · by_cases e2 : k = b
      · subst e2
        repeat' split
        all_goals omega
      · repeat' split
        all_goals omega
theorem kp_ka {a b : Nat} (ha : a < 10) (hb : b < 10) (h1 : g 2 ≠ 1) (h2 : g 2 ≤ 2) : kp g a b = if b = a then ka g a else ka (ka g a) b := by
  have hk : kp g a b = kpF g a b 10 0 := by unfold kp; rw [if_neg h1]
  rw [hk]
  funext j
  unfold kpF
  rw [nb_eq]
  by_cases e : b = a
  · rw [if_pos e]
    subst e
    unfold ka
    by_cases kn : 0 < g (97 + b)
    · rw [if_pos kn]
      by_cases g2 : g 2 = 2
      · rw [if_neg (by omega), if_pos g2, if_pos g2]
        unfold un
        by_cases j3 : j = 15
        · rw [if_pos j3, if_pos j3, if_pos ⟨by omega, by omega, kn⟩, if_neg (by omega)]
        · rw [if_neg j3, if_neg j3]
      · rw [if_pos (by omega), if_neg g2]
        unfold un
        by_cases j1 : j = 97 + b
        · rw [if_pos ⟨by omega, by omega, Or.inl j1⟩, if_neg (by omega), if_pos j1]
        · rw [if_neg (by omega)]
          by_cases j3 : j = 13
          · rw [if_pos j3, if_pos j3, if_pos ⟨by omega, by omega, kn⟩, if_neg (by omega)]
          · rw [if_neg j3, if_neg j3, if_neg j1]
    · have z : ((if 0 ≤ b ∧ b < 0 + 10 ∧ 0 < g (97 + b) then 1 else 0) + (if 0 ≤ b ∧ b < 0 + 10 ∧ b ≠ b ∧ 0 < g (97 + b) then 1 else 0) : Nat) = 0 := by rw [if_neg (by omega), if_neg (by omega)]
      rw [if_neg kn, z]
      by_cases j1 : j = 97 + b
      · subst j1
        repeat' split
        all_goals omega
      · by_cases j2 : j = 13
        · subst j2
          repeat' split
          all_goals omega
        · by_cases j3 : j = 15
          · subst j3
            repeat' split
            all_goals omega
          · repeat' split
            all_goals first | rfl | omega
  · rw [if_neg e]
    have eb : (ka g a) (97 + b) = g (97 + b) := by
      unfold ka
      split
      · split
        · rw [un_ne _ _ (by omega)]
        · rw [un_ne _ _ (by omega), un_ne _ _ (by omega)]
      · rfl
    have e2 : (ka g a) 2 = g 2 := by
      unfold ka
      split
      · split
        · rw [un_ne _ _ (by omega)]
        · rw [un_ne _ _ (by omega), un_ne _ _ (by omega)]
      · rfl
    have hv : ∀ (f : Nat → Nat) (k i : Nat), ka f k i = if 0 < f (97 + k) then (if f 2 = 2 then (if i = 15 then f 15 + 1 else f i) else (if i = 13 then f 13 + 1 else if i = 97 + k then 0 else f i)) else f i := fun f k i => by
      unfold ka
      split
      · split <;> rfl
      · rfl
    rw [hv (ka g a) b j, eb, e2, hv g a j, hv g a 13, hv g a 15]
    have hN : ((if 0 ≤ a ∧ a < 0 + 10 ∧ 0 < g (97 + a) then 1 else 0) + (if 0 ≤ b ∧ b < 0 + 10 ∧ b ≠ a ∧ 0 < g (97 + b) then 1 else 0) : Nat) = (if 0 < g (97 + a) then 1 else 0) + (if 0 < g (97 + b) then 1 else 0) := by
      congr 1
      · by_cases q : 0 < g (97 + a)
        · rw [if_pos q, if_pos ⟨by omega, by omega, q⟩]
        · rw [if_neg q, if_neg (fun z => q z.2.2)]
      · by_cases q : 0 < g (97 + b)
        · rw [if_pos q, if_pos ⟨by omega, by omega, e, q⟩]
        · rw [if_neg q, if_neg (fun z => q z.2.2.2)]
    rw [hN]
    by_cases g2 : g 2 = 2
    · have g0 : ¬ g 2 = 0 := by omega
      simp only [if_neg g0, if_pos g2]
      by_cases kA : 0 < g (97 + a)
      · by_cases kB : 0 < g (97 + b)
        · simp only [if_pos kA, if_pos kB]
          by_cases j3 : j = 15
          · rw [if_pos j3, if_pos j3, if_pos trivial]
          · rw [if_neg j3, if_neg j3, if_neg j3]
        · simp only [if_pos kA, if_neg kB]
      · by_cases kB : 0 < g (97 + b)
        · simp only [if_neg kA, if_pos kB]
        · simp only [if_neg kA, if_neg kB]
          by_cases j3 : j = 15
          · subst j3; simp
          · simp [j3]
    · have g0 : g 2 = 0 := by omega
      simp only [if_pos g0, if_neg g2]
      by_cases ja : j = 97 + a
      · have c1 : 97 + 0 ≤ j ∧ j < 97 + 0 + 10 ∧ (j = 97 + a ∨ j = 97 + b) := by omega
        have c2 : ¬ j = 13 := by omega
        have c3 : ¬ j = 97 + b := by omega
        simp only [if_pos c1, if_neg c2, if_neg c3, if_pos ja]
        by_cases kA : 0 < g (97 + a)
        · simp only [if_pos kA, ite_self]
        · simp only [if_neg kA, ite_self]
          rw [ja]
          omega
      · by_cases jb : j = 97 + b
        · have c1 : 97 + 0 ≤ j ∧ j < 97 + 0 + 10 ∧ (j = 97 + a ∨ j = 97 + b) := by omega
          have c2 : ¬ j = 13 := by omega
          simp only [if_pos c1, if_neg c2, if_neg ja, if_pos jb, ite_self]
          by_cases kB : 0 < g (97 + b)
          · simp only [if_pos kB]
          · simp only [if_neg kB]
            rw [jb]
            omega
        · have c1 : ¬ (97 + 0 ≤ j ∧ j < 97 + 0 + 10 ∧ (j = 97 + a ∨ j = 97 + b)) := by omega
          simp only [if_neg c1, if_neg ja, if_neg jb]
          by_cases j3 : j = 13
          · simp only [if_pos j3, if_true]
            by_cases kA : 0 < g (97 + a)
            · by_cases kB : 0 < g (97 + b)
              · simp only [if_pos kA, if_pos kB]
              · simp only [if_pos kA, if_neg kB]
            · by_cases kB : 0 < g (97 + b)
              · simp only [if_neg kA, if_pos kB, Nat.zero_add]
              · simp only [if_neg kA, if_neg kB]; subst j3; omega
          · simp only [if_neg j3, ite_self]
end CKP

