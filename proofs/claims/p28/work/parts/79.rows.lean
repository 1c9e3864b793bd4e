/-! rows that are told -/
section AR1
variable {t c : Nat} {h : Nat → Hp} {g : Nat → Nat}
def ar1 (h : Nat → Hp) (x5 x7 e : Int32) (A B : Option Int32) : Option Int32 :=
  lm_br (x5 = 0)
   A
   (lm_bd (F_X6_row h (1 : Int32) x7 (0 : Int32)) fun r29 =>
   lm_gi ((2 : Int32) * x7) 44
   (lm_br (¬ r29 = (h 9 1 (((2 : Int32) * x7)).toNatClampNeg))
    A
    (lm_bd (F_X6_row h (1 : Int32) x7 (1 : Int32)) fun r32 =>
    lm_gi (((2 : Int32) * x7) + (1 : Int32)) 44
    (lm_br (¬ r32 = (h 9 1 ((((2 : Int32) * x7) + (1 : Int32))).toNatClampNeg))
     A
     (lm_bd (F_X6_row h (1 : Int32) x7 (2 : Int32)) fun r35 =>
     lm_br (¬ r35 = e) A B)))))
theorem rows_eq (n : Nat) (h : Nat → Hp) (x5 x6 x7 : Int32) : F_L_areRows_L93 (n + 1) h x5 x6 x7 = lm_br ((h 9 0 5) ≤ x7) (F_L_areRows_L228 1000 h x5 x6 (0 : Int32)) (lm_gi ((2 : Int32) * x7) 44 (lm_bd (F_L_has (lw_f1 (h 9 3)) (h 9 1 (((2 : Int32) * x7)).toNatClampNeg)) fun r26 => lm_br (r26 = 0) (ar1 h x5 x7 0 (F_L_areRows_L93 n h (0 : Int32) x6 (x7 + (1 : Int32))) (F_L_areRows_L93 n h (1 : Int32) x6 (x7 + (1 : Int32)))) (lm_gi (((2 : Int32) * x7) + (1 : Int32)) 44 (lm_br ((h 9 1 ((((2 : Int32) * x7) + (1 : Int32))).toNatClampNeg) < (h 9 0 3)) (ar1 h x5 x7 0 (F_L_areRows_L93 n h (0 : Int32) x6 (x7 + (1 : Int32))) (F_L_areRows_L93 n h (1 : Int32) x6 (x7 + (1 : Int32)))) (lm_gi (((2 : Int32) * x7) + (1 : Int32)) 44 (lm_br ((h 9 0 4) < (h 9 1 ((((2 : Int32) * x7) + (1 : Int32))).toNatClampNeg)) (ar1 h x5 x7 0 (F_L_areRows_L93 n h (0 : Int32) x6 (x7 + (1 : Int32))) (F_L_areRows_L93 n h (1 : Int32) x6 (x7 + (1 : Int32)))) (ar1 h x5 x7 1 (F_L_areRows_L93 n h (0 : Int32) x6 (x7 + (1 : Int32))) (F_L_areRows_L93 n h (1 : Int32) x6 (x7 + (1 : Int32)))))))))) := rfl
theorem ar1_ok (hG : GC t c h g) {Mq Ml : List Nat} (hL : Ls (h 9) g Mq Ml) {r : Nat} (hr : r < g 5) {e : Int32} (he : e = if 0 < g (97 + g (17 + 2 * r)) ∧ mt g (g (17 + 2 * r)) r = true then 1 else 0) (A B : Option Int32) : ar1 h 1 (nI r) e A B = B := by
  have b5 := hG.inn.1.1
  obtain ⟨a1, a2, a3⟩ := as_row1 hG hr
  have e2 : (2 : Int32) * nI r = nI (2 * r) := by rw [ev_k2, ev_mul]
  have v : h 9 1 (2 * r + 1) = nI (g (18 + 2 * r)) := by
    rw [(hL.2.1 _ (by omega)).1]
    congr 2
    omega
  unfold ar1
  rw [lm_br, if_neg (by decide), a1, lm_bd_some, e2, ev_gi (by omega) (by omega), ev_cl (by omega), (hL.2.1 _ (by omega)).1, lm_br, if_neg (not_not_intro rfl), a2, lm_bd_some, nI_1, ev_gi (by omega) (by omega), ev_cl (by omega), v, lm_br, if_neg (not_not_intro rfl), a3, lm_bd_some, lm_br, ← he, if_neg (not_not_intro rfl)]
theorem l_rows_L (hG : GC t c h g) {Mq Ml : List Nat} (hL : Ls (h 9) g Mq Ml) : ∀ d n i, i + d = g 5 → d < n → F_L_areRows_L93 n h 1 0 (nI i) = F_L_areRows_L228 1000 h 1 0 0 := by
  obtain ⟨b5, b3, b4, hrow⟩ := id hG.inn.1
  have u5 : h 9 0 5 = nI (g 5) := hL.1 5 (by omega)
  have u3 : h 9 0 3 = nI (g 3) := hL.1 3 (by omega)
  have u4 : h 9 0 4 = nI (g 4) := hL.1 4 (by omega)
  intro d
  induction d with
  | zero =>
    intro n i hi hn
    cases n with
    | zero => omega
    | succ n => rw [rows_eq, u5, lm_br, if_pos (nI_le (by omega) (by omega))]
  | succ d ih =>
    intro n i hi hn
    cases n with
    | zero => omega
    | succ n =>
      have hr : i < g 5 := by omega
      obtain ⟨r1, r2⟩ := hrow i hr
      have e2 : (2 : Int32) * nI i = nI (2 * i) := by rw [ev_k2, ev_mul]
      have v : h 9 1 (2 * i + 1) = nI (g (18 + 2 * i)) := by
        rw [(hL.2.1 _ (by omega)).1]
        congr 2
        omega
      have nx := ih n (i + 1) (by omega) (by omega)
      have hmt : mt g (g (17 + 2 * i)) i = true ↔ (g 3 ≤ g (18 + 2 * i) ∧ g (18 + 2 * i) ≤ g 4) := by
        simp [mt]
      rw [rows_eq, u5, lm_br, if_neg (nI_ge (by omega) (by omega)), e2, ev_gi (by omega) (by omega), ev_cl (by omega), (hL.2.1 _ (by omega)).1, l_hasS hL r1, lm_bd_some, nI_1, nI_1, ev_cl (by omega), v, u3, u4]
      by_cases w : 0 < g (97 + g (17 + 2 * i))
      · rw [if_pos w, lm_br, if_neg (by decide), ev_gi (by omega) (by omega), lm_br]
        by_cases y1 : g 3 ≤ g (18 + 2 * i)
        · rw [if_neg (nI_nlt y1 (by omega)), ev_gi (by omega) (by omega), lm_br]
          by_cases y2 : g (18 + 2 * i) ≤ g 4
          · rw [if_neg (nI_nlt y2 (by omega)), ar1_ok hG hL hr (by rw [if_pos ⟨w, hmt.mpr ⟨y1, y2⟩⟩])]
            exact nx
          · rw [if_pos (nI_lt (by omega) (by omega)), ar1_ok hG hL hr (by rw [if_neg (fun z => y2 (hmt.mp z.2).2)])]
            exact nx
        · rw [if_pos (nI_lt (by omega) (by omega)), ar1_ok hG hL hr (by rw [if_neg (fun z => y1 (hmt.mp z.2).1)])]
          exact nx
      · rw [if_neg w, lm_br, if_pos (by decide), ar1_ok hG hL hr (by rw [if_neg (fun z => w z.1)])]
        exact nx
def ar0 (h : Nat → Hp) (x5 x7 e : Int32) (A B : Option Int32) : Option Int32 := lm_bd (F_X6_row h (0 : Int32) x7 (2 : Int32)) fun r21 => lm_br (¬ r21 = e) A B
theorem l_rows2_L (hG : GC t c h g) {Mq Ml : List Nat} (hL : Ls (h 9) g Mq Ml) : ∀ d n i acc, i + d = g 6 → d < n → acc + tD g d i = tD g (g 6) 0 → F_L_areRows_L228 n h 1 (nI acc) (nI i) = some 1 := by
  obtain ⟨b6, b7, hrow⟩ := id hG.inn.2.1
  have u6 : h 9 0 6 = nI (g 6) := hL.1 6 (by omega)
  have u7 : h 9 0 7 = nI (g 7) := hL.1 7 (by omega)
  intro d
  induction d with
  | zero =>
    intro n i acc hi hn ha
    cases n with
    | zero => omega
    | succ n =>
      have e : acc = tD g (g 6) 0 := ha
      obtain ⟨t1, t2⟩ := as_total hG
      rw [F_L_areRows_L228, u6, lm_br, if_pos (nI_le (by omega) (by omega)), lm_br, if_neg (by decide), t1, lm_bd_some, lm_br, if_neg (not_not_intro (by rw [e])), t2, lm_bd_some, lm_br, if_neg (not_not_intro (by rw [e]))]
  | succ d ih =>
    intro n i acc hi hn ha
    cases n with
    | zero => omega
    | succ n =>
      have hr : i < g 6 := by omega
      obtain ⟨r1, r2⟩ := hrow i hr
      have e2 : (2 : Int32) * nI i = nI (2 * i) := by rw [ev_k2, ev_mul]
      have v : h 9 2 (2 * i + 1) = nI (g (58 + 2 * i)) := by
        rw [(hL.2.1 _ (by omega)).2]
        congr 2
        omega
      obtain ⟨a1, a2, a3⟩ := as_row0 hG hr
      have nx := ih n (i + 1) (acc + g (58 + 2 * i) * sm g (g (57 + 2 * i))) (by omega) (by omega) (by
        rw [← ha, tD, Nat.add_assoc])
      rw [F_L_areRows_L228, u6, lm_br, if_neg (nI_ge (by omega) (by omega)), e2, nI_1, ev_gi (by omega) (by omega), ev_gi (by omega) (by omega), ev_cl (by omega), ev_cl (by omega), (hL.2.1 _ (by omega)).2, l_weight1 hL.1 hL.2.1 hG.inn.1 r1, lm_bd_some, v, ev_mul, ev_add, lm_lt_eq, lm_br, if_neg (by decide), a1, lm_bd_some, ev_gi (by omega) (by omega), lm_br, if_neg (not_not_intro rfl), a2, lm_bd_some, ev_gi (by omega) (by omega), lm_br, if_neg (not_not_intro rfl), a3, lm_bd_some, u7, nI_1, lm_br]
      by_cases w : i < g 7
      · rw [if_neg (nI_ge w (by omega)), if_pos w, lm_br, if_neg (not_not_intro rfl)]
        exact nx
      · rw [if_pos (nI_le (by omega) (by omega)), if_neg w, lm_br, if_neg (not_not_intro rfl)]
        exact nx
theorem l_areRows (hA : GA t c h g) : F_L_areRows h = some 1 := by
  obtain ⟨hG, Mq, Ml, hL⟩ := hA
  have u5 : h 9 0 5 = nI (g 5) := hL.1 5 (by omega)
  have u6 : h 9 0 6 = nI (g 6) := hL.1 6 (by omega)
  have a1 : F_X6_answer h 10 0 = some (-1) := rfl
  have a2 : F_X6_answer h 0 4 = some (-1) := rfl
  have a3 : F_X6_remembered h 0 6 = some (-1) := rfl
  have a4 : F_X6_remembered h (-1) 0 = some (-1) := rfl
  unfold F_L_areRows
  rw [u5, u6, as_row1N hG, lm_bd_some, lm_br, if_neg (by decide), as_row0N hG, lm_bd_some, lm_br, if_neg (by decide), as_row1M, lm_bd_some, lm_br, if_neg (by decide), a1, lm_bd_some, lm_br, if_neg (by decide), a2, lm_bd_some, lm_br, if_neg (by decide), a3, lm_bd_some, lm_br, if_neg (by decide), a4, lm_bd_some, lm_br, if_neg (by decide)]
  have z := l_rows_L hG hL (g 5) 1000 0 (by omega) (by have := hG.inn.1.1; omega)
  have z2 := l_rows2_L hG hL (g 6) 1000 0 0 (by omega) (by have := hG.inn.2.1.1; omega) (Nat.zero_add _)
  exact z.trans z2
end AR1
