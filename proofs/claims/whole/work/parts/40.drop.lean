/-! taking a row out: the reference -/
section CD1
variable {g : Nat → Nat} {μ : Hp}
/-- the places from lo to hi take what stood two further -/
def sh2 (g : Nat → Nat) (lo hi : Nat) : Nat → Nat := fun j => if lo ≤ j ∧ j < hi then g (j + 2) else g j
theorem sh2_out {g : Nat → Nat} {lo hi j : Nat} (h : ¬ (lo ≤ j ∧ j < hi)) : sh2 g lo hi j = g j := if_neg h
theorem sh2_in {g : Nat → Nat} {lo hi j : Nat} (h : lo ≤ j ∧ j < hi) : sh2 g lo hi j = g (j + 2) := if_pos h
theorem sh2_step (g : Nat → Nat) {lo hi : Nat} (h : lo ≤ hi) (j : Nat) : un (sh2 g lo hi) hi (g (hi + 2)) j = sh2 g lo (hi + 1) j := by
  by_cases e : j = hi
  · subst e
    rw [un_same, sh2_in (by omega)]
  · rw [un_ne _ _ e]
    by_cases q : lo ≤ j ∧ j < hi
    · rw [sh2_in q, sh2_in (by omega)]
    · rw [sh2_out q, sh2_out (by omega)]
def drX (σx : Hp) (x1 x2 x4 x5 : Int32) : Option (Int32 × Hp) :=
     (lm_br (x1 = 0)
      (lm_br ((σx 1 7) ≤ x2)
       (lm_lt (lm_u σx 1 7 ((σx 1 7) - (0 : Int32))) fun σ14 =>
       lm_gi x4 127
       (some ((σ14 1 x4.toNatClampNeg), σ14)))
       (lm_lt (lm_u σx 1 7 ((σx 1 7) - (1 : Int32))) fun σ16 =>
       lm_gi x4 127
       (some ((σ16 1 x4.toNatClampNeg), σ16))))
      (lm_bd (F_X7_keeps σx x5 x5) fun σ18 =>
      lm_gi x4 127
      (some ((σ18 1 x4.toNatClampNeg), σ18))))
theorem o_drop_L {b s r : Nat} (hb : (b = 17 ∧ s = 5) ∨ (b = 57 ∧ s = 6)) (hs : g s ≤ 19) (x1 x2 x5 : Int32) : ∀ d n i (μ : Hp), Mo μ (sh2 g (b + 2 * r) (b + i)) → 2 * r ≤ i → i + d = 2 * g s → d < n → ∃ μ', F_X7_drop_L81 n μ x1 x2 (nI b) (nI s) x5 (nI i) = drX μ' x1 x2 (nI s) x5 ∧ Mo μ' (sh2 g (b + 2 * r) (b + 2 * g s)) ∧ Fr μ μ' := by
  intro d
  induction d with
  | zero =>
    intro n i μ hM hr hi hn
    cases n with
    | zero => omega
    | succ n =>
      have es : μ 1 s = nI (g s) := by rw [hM s (by omega), sh2_out (by omega)]
      rw [F_X7_drop_L81, ev_gi (by omega) (by omega), lm_br, ev_cl (by omega), es, ev_k2, ev_mul, if_pos (nI_le (by omega) (by omega))]
      refine ⟨μ, ?_, (show i = 2 * g s by omega) ▸ hM, Fr.rf⟩
      unfold drX
      rw [ev_cl (by omega)]
  | succ d ih =>
    intro n i μ hM hr hi hn
    cases n with
    | zero => omega
    | succ n =>
      have es : μ 1 s = nI (g s) := by rw [hM s (by omega), sh2_out (by omega)]
      have e2 : μ 1 (b + i + 2) = nI (g (b + i + 2)) := by rw [hM _ (by omega), sh2_out (by omega)]
      rw [F_X7_drop_L81, ev_gi (by omega) (by omega), lm_br, ev_cl (by omega), es, ev_k2, ev_mul, if_neg (nI_ge (by omega) (by omega)), ev_add, ev_add, ev_gi (by omega) (by omega), ev_gi (by omega) (by omega), ev_cl (by omega), ev_cl (by omega), e2, lm_lt_eq, nI_1]
      have hM2 : Mo (lm_u μ 1 (b + i) (nI (g (b + i + 2)))) (sh2 g (b + 2 * r) (b + (i + 1))) := Mo_eq (Mo_u hM (b + i) (g (b + i + 2))) (fun j hj => (sh2_step g (lo := b + 2 * r) (hi := b + i) (by omega) j).symm)
      obtain ⟨μ', i1, i2, i3⟩ := ih n (i + 1) _ hM2 (by omega) (by omega) (by omega)
      exact ⟨μ', i1, i2, (Fr.rf.u _ _).trans i3⟩
def drO (g : Nat → Nat) (r : Nat) : Nat → Nat := un (sh2 (un g 6 (g 6 - 1)) (57 + 2 * r) (57 + 2 * (g 6 - 1))) 7 (g 7 - (if r < g 7 then 1 else 0))
def drI (g : Nat → Nat) (r : Nat) : Nat → Nat := sh2 (un g 5 (g 5 - 1)) (17 + 2 * r) (17 + 2 * (g 5 - 1))
theorem sh2_e {g : Nat → Nat} (a b : Nat) (j : Nat) : sh2 g (a + 2 * b) (a + 2 * b) j = g j := sh2_out (by omega)
theorem o_isInner (hM : Mo μ g) (h5 : g 5 ≤ 20) {r : Nat} (hr : r < 2147483648) : F_X7_isInner μ (nI r) = some (if r < g 5 then nI 1 else nI 0) := by
  unfold F_X7_isInner
  rw [hM 5 (by omega)]
  by_cases q : g 5 = 0
  · rw [q, if_neg (by omega)]
    unfold F_X7_in
    have hz : ¬ nI r ≤ nI 0 - 1 := by
      rw [show nI 0 - 1 = (-1 : Int32) by decide]
      exact fun h => absurd (Int32.le_trans (show nI 0 ≤ nI r from nI_le (by omega) hr) h) (by decide)
    have hz2 : nI 0 - 1 < nI r := Int32.not_le.mp hz
    rw [show (0 : Int32) = nI 0 from rfl]
    simp (disch := omega) only [lm_br, lm_bd_some, ev_lt_f, if_false, ite_false, hz, hz2, lm_gd, or_true, true_or, or_false, false_or, reduceIte, if_true]
  · rw [show nI (g 5) - (1 : Int32) = nI (g 5 - 1) from by rw [ev_k1, pk_sub (by omega)], show (0 : Int32) = nI 0 from rfl, o_in r 0 (g 5 - 1) hr (by omega) (by omega), lm_bd_some]
    by_cases w : r < g 5
    · rw [if_pos ⟨by omega, by omega⟩, if_pos w, lm_gd, if_pos (by decide)]
    · rw [if_neg (by omega), if_neg w, lm_gd, if_pos (by decide)]
theorem o_isOuter (hM : Mo μ g) (h6 : g 6 ≤ 20) {r : Nat} (hr : r < 2147483648) : F_X7_isOuter μ (nI r) = some (if r < g 6 then nI 1 else nI 0) := by
  unfold F_X7_isOuter
  rw [hM 6 (by omega)]
  by_cases q : g 6 = 0
  · rw [q, if_neg (by omega)]
    unfold F_X7_in
    have hz : ¬ nI r ≤ nI 0 - 1 := by
      rw [show nI 0 - 1 = (-1 : Int32) by decide]
      exact fun h => absurd (Int32.le_trans (show nI 0 ≤ nI r from nI_le (by omega) hr) h) (by decide)
    have hz2 : nI 0 - 1 < nI r := Int32.not_le.mp hz
    rw [show (0 : Int32) = nI 0 from rfl]
    simp (disch := omega) only [lm_br, lm_bd_some, ev_lt_f, if_false, ite_false, hz, hz2, lm_gd, or_true, true_or, or_false, false_or, reduceIte, if_true]
  · rw [show nI (g 6) - (1 : Int32) = nI (g 6 - 1) from by rw [ev_k1, pk_sub (by omega)], show (0 : Int32) = nI 0 from rfl, o_in r 0 (g 6 - 1) hr (by omega) (by omega), lm_bd_some]
    by_cases w : r < g 6
    · rw [if_pos ⟨by omega, by omega⟩, if_pos w, lm_gd, if_pos (by decide)]
    · rw [if_neg (by omega), if_neg w, lm_gd, if_pos (by decide)]
end CD1
