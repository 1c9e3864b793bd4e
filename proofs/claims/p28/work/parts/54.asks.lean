/-! what is asked of the answers and of the memory -/
section TQ1
variable {g : Nat → Nat} {μ : Hp}
/-- what is told of the answer for k -/
def tl (g : Nat → Nat) (k : Nat) (x : Int32) : Int32 := if x = 0 then nI (cnt g k) else if x = 1 then nI (2 + cnt g k) else if x = 2 then nI (sm g k) else if cnt g k = 0 then -4 else nI (fs g k)
theorem cnt_le (g : Nat → Nat) (k : Nat) : cnt g k ≤ g 5 := cD_le g k (g 5) 0
theorem c_tell {σ : Hp} (hA : Ca σ g) (hR : Rin g) {k : Nat} (hk : k < 10) (x : Int32) : F_X0_tell (lm_sh 7 σ) (nI k) x = some (tl g k x) := by
  obtain ⟨a1, a2, a3⟩ := hA k hk
  have b1 : lm_sh 7 σ 1 k = nI (cnt g k) := a1
  have b2 : lm_sh 7 σ 2 k = nI (sm g k) := a2
  have b5 := hR.1
  have bc := cnt_le g k
  unfold F_X0_tell tl
  rw [lm_br, if_neg (nI_nn k (by omega)), lm_br, if_pos (show nI k < 10 from nI_lt (a := k) (b := 10) hk (by omega)), ev_gi (by omega) (by omega), ev_gi (by omega) (by omega), ev_gi (by omega) (by omega), ev_gi (by omega) (by omega), ev_cl (by omega), b1, b2, c_weight hk b1, lm_bd_some, lm_br, lm_br, lm_br, lm_br]
  by_cases q0 : x = 0
  · rw [if_pos q0, if_pos q0]
  · rw [if_neg q0, if_neg q0]
    by_cases q1 : x = 1
    · rw [if_pos q1, if_pos q1]
    · rw [if_neg q1, if_neg q1]
      by_cases q2 : x = 2
      · rw [if_pos q2, if_pos q2]
      · rw [if_neg q2, if_neg q2]
        by_cases w : cnt g k = 0
        · rw [if_pos w, if_neg (not_not_intro (by rw [w]; rfl))]
        · rw [if_neg w, if_pos (show ¬ nI (cnt g k) = (0 : Int32) from fun z => w ((nI_eq (b := 0) (by omega) (by omega)).mp z))]
          have b3 : lm_sh 7 σ 3 k = nI (fs g k) := a3 (by omega)
          rw [b3]
theorem c_placeOf_L {τ : Hp} {l f : Nat → Nat} (h1 : g 1 ≤ 2) (hu : ∀ k, k < 10 → τ 1 k = nI (g (97 + k)) ∧ g (97 + k) < 1073741824) (hm : ∀ k, k < 10 → 0 < g (97 + k) → τ 2 k = nI (l k) ∧ τ 3 k = nI (f k) ∧ l k < 1073741824 ∧ f k < 1073741824) (ha : ∀ j k, j < 10 → k < 10 → 0 < g (97 + j) → 0 < g (97 + k) → aC g l f j k = ah g j k) {q : Nat} (hq : q < 10) (kq : 0 < g (97 + q)) : ∀ d n k acc, k + d = 10 → d < n → F_X2_placeOf_L5 n τ (nI q) (nI (g 1)) (nI acc) (nI k) = some (nI (acc + oD g q d k)) := by
  intro d
  induction d with
  | zero =>
    intro n k acc hr hn
    cases n with
    | zero => omega
    | succ n =>
      rw [F_X2_placeOf_L5, oD, lm_br, if_pos (show (10 : Int32) ≤ nI k from nI_le (a := 10) (b := k) (by omega) (by omega))]
      rfl
  | succ d ih =>
    intro n k acc hr hn
    cases n with
    | zero => omega
    | succ n =>
      obtain ⟨u1, u2⟩ := hu k (by omega)
      rw [F_X2_placeOf_L5, oD, lm_br, if_neg (show ¬ (10 : Int32) ≤ nI k from nI_ge (a := k) (b := 10) (by omega) (by omega)), ev_gi (by omega) (by omega), ev_cl (by omega), u1, lm_br, nI_1]
      by_cases h : 0 < g (97 + k)
      · obtain ⟨m1, m2, m3, m4⟩ := hm k (by omega) h
        obtain ⟨v1, v2⟩ := hu q hq
        obtain ⟨w1, w2, w3, w4⟩ := hm q hq kq
        have hc := c_cmp (Ra_lt (g := g) u2 m3 m4) (Ra_lt (g := g) v2 w3 w4)
        rw [if_neg (show ¬ nI (g (97 + k)) ≤ 0 from nI_ge (a := 0) h (by omega)), if_pos h, c_rank (by omega) h1 u1 m1 m2 u2 m3 m4, lm_bd_some, c_rank hq h1 v1 w1 w2 v2 w3 w4, lm_bd_some, lm_br, ← ha k q (by omega) hq h kq]
        by_cases h3 : aC g l f k q = true
        · have h3' : Ra g l f k < Ra g l f q := by simpa [aC] using h3
          rw [if_neg (fun z => by have := hc.mp z; omega), if_pos h3, ev_k1, ev_add, ih n (k + 1) (acc + 1) (by omega) (by omega), Nat.add_assoc]
        · have h3' : ¬ Ra g l f k < Ra g l f q := by simpa [aC] using h3
          rw [if_pos (hc.mpr (by omega)), if_neg h3, ih n (k + 1) acc (by omega) (by omega), Nat.zero_add]
      · rw [if_pos (show nI (g (97 + k)) ≤ 0 from nI_le (b := 0) (by omega) (by omega)), if_neg h, ih n (k + 1) acc (by omega) (by omega), Nat.zero_add]
theorem c_placeOf {σ : Hp} (hC : Cm σ g) (hK : Kn g) (h16 : g 16 ≤ 1000000) (h1 : g 1 ≤ 2) {q : Nat} (hq : q < 10) (kq : 0 < g (97 + q)) : F_X2_placeOf (lm_sh 11 σ) (nI q) (nI (g 1)) = some (nI (oD g q 10 0)) := by
  obtain ⟨z, l, f, c1, c2, c3, c4⟩ := hC
  unfold F_X2_placeOf
  refine (c_placeOf_L (g := g) (τ := lm_sh 11 σ) (l := l) (f := f) h1 (fun k hk => ⟨(c3 k hk).1, by have := (hK k hk).1; omega⟩) (fun k hk kn => by
    obtain ⟨d1, d2, d3, d4⟩ := (c3 k hk).2 kn
    exact ⟨d1, d2, by omega, by omega⟩) (fun j k hj hk kj kk => aC_ah c2 h16 hK h1 (fun i hi kn => by
    obtain ⟨d1, d2, d3, d4⟩ := (c3 i hi).2 kn
    exact ⟨d3, d4⟩) c4 hj hk kj kk) hq kq 10 1000 0 0 (by omega) (by omega)).trans ?_
  rw [Nat.zero_add]
end TQ1

