/-! every call of a run, on both sides: k calls were made -/
section BT1
variable {h : Nat → Hp} {μ : Hp} {k : Nat}
def GR (k : Nat) (h : Nat → Hp) (μ : Hp) : Prop := RR k (600 * k) h μ
theorem GR.up (hk : k < 512) (hR : RR k (600 * k) h μ) : GR (k + 1) h μ := RR_mono hR (by omega) (by omega) (by omega) (by omega)
theorem GR.fx (hk : k < 512) (hR : GR k h μ) {h' : Nat → Hp} {μ' : Hp} {t' c' : Nat} (hF : Fx h h' μ μ') (h0 : R0 t' c' h' μ') (ht : t' ≤ k + 1) (hc : c' ≤ 600 * k + 600) : GR (k + 1) h' μ' := RR_Fx hR hF (R0_mono h0 ht (show c' ≤ 600 * (k + 1) by omega) (by omega) (by omega)) (by omega) (by omega) (by omega) (by omega)
theorem GR.fq (hk : k < 512) (hR : GR k h μ) {h' : Nat → Hp} {μ' : Hp} (hF : Fq h h' μ μ') (h0 : R0 k (600 * k) h' μ') : GR (k + 1) h' μ' := GR.up hk (RR_Fq hR hF h0)
theorem b_add (hk : k < 512) (hR : GR k h μ) (x1 x2 x3 : Int32) : ∃ r h' μ', F_X6_add h x1 x2 x3 = some (r, h') ∧ F_X7_add μ x1 x2 x3 = some (r, μ') ∧ GR (k + 1) h' μ' := by
  obtain ⟨r, h', μ', a, b, c, d⟩ := t_add hR.1 x1 x2 x3
  exact ⟨r, h', μ', a, b, hR.fx hk d c (by omega) (by omega)⟩
theorem b_drop (hk : k < 512) (hR : GR k h μ) (x1 x2 : Int32) : ∃ r h' μ', F_X6_drop h x1 x2 = some (r, h') ∧ F_X7_drop μ x1 x2 = some (r, μ') ∧ GR (k + 1) h' μ' := by
  obtain ⟨r, h', μ', a, b, c, d⟩ := t_drop (by omega) hR.1 x1 x2
  rcases c with c | c
  · exact ⟨r, h', μ', a, b, hR.fx hk d c (by omega) (by omega)⟩
  · exact ⟨r, h', μ', a, b, hR.fx hk d c (by omega) (by omega)⟩
theorem b_change (hk : k < 512) (hR : GR k h μ) (x1 x2 x3 : Int32) : ∃ r h' μ', F_X6_change h x1 x2 x3 = some (r, h') ∧ F_X7_change μ x1 x2 x3 = some (r, μ') ∧ GR (k + 1) h' μ' := by
  obtain ⟨r, h', μ', a, b, c, d⟩ := t_change hR.1 x1 x2 x3
  exact ⟨r, h', μ', a, b, hR.fx hk d c (by omega) (by omega)⟩
theorem b_step (hk : k < 512) (hR : GR k h μ) (x1 : Int32) : ∃ r h' μ', F_X6_step h x1 = some (r, h') ∧ F_X7_step μ x1 = some (r, μ') ∧ GR (k + 1) h' μ' := by
  obtain ⟨r, h', μ', a, b, c, d⟩ := t_step (by omega) hR.1 x1
  rcases c with c | c
  · exact ⟨r, h', μ', a, b, hR.fx hk d c (by omega) (by omega)⟩
  · exact ⟨r, h', μ', a, b, hR.fx hk d c (by omega) (by omega)⟩
theorem b_again (hk : k < 512) (hR : GR k h μ) : ∃ r h' μ', F_X6_again h = some (r, h') ∧ F_X7_again μ = some (r, μ') ∧ GR (k + 1) h' μ' := by
  obtain ⟨r, h', μ', a, b, c, d⟩ := t_again hR.1
  exact ⟨r, h', μ', a, b, hR.fx hk d c (by omega) (by omega)⟩
theorem b_forget (hk : k < 512) (hR : GR k h μ) : ∃ r h' μ', F_X6_forget h = some (r, h') ∧ F_X7_forget μ = some (r, μ') ∧ GR (k + 1) h' μ' := by
  obtain ⟨r, h', μ', a, b, c, d⟩ := t_forget hR.1
  exact ⟨r, h', μ', a, b, hR.fx hk d c (by omega) (by omega)⟩
theorem b_set (hk : k < 512) (hR : GR k h μ) (x1 x2 : Int32) : ∃ r h' μ', F_X6_set h x1 x2 = some (r, h') ∧ F_X7_set μ x1 x2 = some (r, μ') ∧ GR (k + 1) h' μ' := by
  obtain ⟨r, h', μ', a, b, c, d⟩ := tp_set hR.1 x1 x2
  exact ⟨r, h', μ', a, b, hR.fx hk d c (by omega) (by omega)⟩
theorem b_append (hk : k < 512) (hR : GR k h μ) (x1 : Int32) : ∃ r h' μ', F_X6_append h x1 = some (r, h') ∧ F_X7_append μ x1 = some (r, μ') ∧ GR (k + 1) h' μ' := by
  obtain ⟨r, h', μ', a, b, c⟩ := tp_append hR x1
  exact ⟨r, h', μ', a, b, GR.up hk c⟩
theorem b_clear (hk : k < 512) (hR : GR k h μ) : ∃ r h' μ', F_X6_clear h = some (r, h') ∧ F_X7_clear μ = some (r, μ') ∧ GR (k + 1) h' μ' := by
  obtain ⟨r, h', μ', a, b, c⟩ := tp_clear hR
  exact ⟨r, h', μ', a, b, GR.up hk c⟩
theorem b_fault (hk : k < 512) (hR : GR k h μ) (x1 : Int32) : ∃ r h' μ', F_X6_fault h x1 = some (r, h') ∧ F_X7_fault μ x1 = some (r, μ') ∧ GR (k + 1) h' μ' := by
  obtain ⟨r, h', μ', a, b, c⟩ := tp_fault hR x1
  exact ⟨r, h', μ', a, b, GR.up hk c⟩
theorem b_fill (hk : k < 512) (hR : GR k h μ) (x1 : Int32) : ∃ r h' μ', F_X6_fill h x1 = some (r, h') ∧ F_X7_fill μ x1 = some (r, μ') ∧ GR (k + 1) h' μ' := by
  obtain ⟨r, h', μ', a, b, c⟩ := tp_fill hR x1
  exact ⟨r, h', μ', a, b, GR.up hk c⟩
theorem b_carryOut (hk : k < 512) (hR : GR k h μ) : ∃ r h' μ', F_X6_carryOut h = some (r, h') ∧ F_X7_carryOut μ = some (r, μ') ∧ GR (k + 1) h' μ' := by
  obtain ⟨r, h', μ', a, b, c⟩ := tp_carryOut (by omega) hR
  exact ⟨r, h', μ', a, b, RR_mono c (by omega) (show 600 * k + 600 ≤ 600 * (k + 1) by omega) (by omega) (by omega)⟩
theorem b_ifBound (hk : k < 512) (hR : GR k h μ) (x1 x2 : Int32) : ∃ r h' μ', F_X6_ifBound h x1 x2 = some (r, h') ∧ F_X7_ifBound μ x1 x2 = some (r, μ') ∧ GR (k + 1) h' μ' := by
  obtain ⟨r, h', μ', a, b, c, d⟩ := q_ifBound (by omega) hR.1 x1 x2
  exact ⟨r, h', μ', a, b, hR.fq hk d c⟩
theorem b_ifOrdered (hk : k < 512) (hR : GR k h μ) (x1 : Int32) : ∃ r h' μ', F_X6_ifOrdered h x1 = some (r, h') ∧ F_X7_ifOrdered μ x1 = some (r, μ') ∧ GR (k + 1) h' μ' := by
  obtain ⟨r, h', μ', a, b, c, d⟩ := q_ifOrdered (by omega) hR.1 x1
  exact ⟨r, h', μ', a, b, hR.fq hk d c⟩
theorem b_leastBound (hk : k < 512) (hR : GR k h μ) : ∃ r h' μ', F_X6_leastBound h = some (r, h') ∧ F_X7_leastBound μ = some (r, μ') ∧ GR (k + 1) h' μ' := by
  obtain ⟨r, h', μ', a, b, c, d⟩ := q_least (by omega) hR.1
  exact ⟨r, h', μ', a, b, hR.fq hk d c⟩
theorem b_undo (hk : k < 512) (hR : GR k h μ) : ∃ r h' μ', F_X6_undo h = some (r, h') ∧ F_X7_undo μ = some (r, μ') ∧ GR (k + 1) h' μ' := by
  obtain ⟨r, h', μ', a, b, c, d⟩ := tp_undo hR.1
  exact ⟨r, h', μ', a, b, hR.fx hk d c (by omega) (by omega)⟩
theorem b_restore (hk : k < 512) (hR : GR k h μ) : ∃ r h' μ', F_X6_restore h = some (r, h') ∧ F_X7_restore μ = some (r, μ') ∧ GR (k + 1) h' μ' := by
  obtain ⟨r, h', μ', a, b, c, d⟩ := tp_restore hR.1 hR.2.1
  exact ⟨r, h', μ', a, b, hR.fx hk d c (by omega) (by omega)⟩
theorem b_save (hk : k < 512) (hR : GR k h μ) : ∃ r h' μ', F_X6_save h = some (r, h') ∧ F_X7_save μ = some (r, μ') ∧ GR (k + 1) h' μ' := by
  obtain ⟨r, h', μ', a, b, c, d, e1, e2, e3, e4, e5⟩ := tp_save hR.1
  refine ⟨r, h', μ', a, b, GR.up hk ⟨c, d, Rp_of hR.2.2.1 ⟨by rw [e2 1 (by omega)], e2 2 (by omega)⟩ ⟨e4 8 (by omega), e5 5 (by omega) (by omega)⟩, ?_⟩⟩
  unfold Rs
  rw [e3 6 (by omega), e3 7 (by omega), e3 8 (by omega), e4 9 (by omega), e5 6 (by omega) (by omega)]
  exact hR.2.2.2
theorem b_why (hR : GR k h μ) (x1 : Int32) : ∃ r, F_X6_why h x1 = some r ∧ F_X7_why μ x1 = some r := q_why hR x1
theorem b_row (hR : GR k h μ) (x1 x2 x3 : Int32) : ∃ r, F_X6_row h x1 x2 x3 = some r ∧ F_X7_row μ x1 x2 x3 = some r := by
  by_cases q : x1 = 0
  · subst q
    exact q_row0 hR.1 x2 x3
  · exact q_row1 hR.1 q x2 x3
theorem b_answer (hR : GR k h μ) (x1 x2 : Int32) : ∃ r, F_X6_answer h x1 x2 = some r ∧ F_X7_answer μ x1 x2 = some r := q_answer hR.1 x1 x2
theorem b_remembered (hR : GR k h μ) (x1 x2 : Int32) : ∃ r, F_X6_remembered h x1 x2 = some r ∧ F_X7_remembered μ x1 x2 = some r := q_remembered hR.1 x1 x2
theorem b_count (hR : GR k h μ) (x1 : Int32) : ∃ r, F_X6_count h x1 = some r ∧ F_X7_count μ x1 = some r := by
  obtain ⟨C, n, hP, hQ⟩ := hR.2.2.1
  exact q_count hR.1 (by unfold F_X3_size; rw [hP.1, hQ.1]) x1
theorem b_total (hR : GR k h μ) (x1 : Int32) : ∃ r, F_X6_total h x1 = some r ∧ F_X7_total μ x1 = some r := q_total hR.1 x1
theorem b_rate (hR : GR k h μ) : h 0 16 0 = μ 1 9 ∧ h 0 16 1 = μ 1 10 := by
  obtain ⟨g, p, n, H, hC, hM, hI, hH, hHs, hIH, h6⟩ := hR.1
  constructor
  · rw [hC.2.2.1 0 (by omega), hM 9 (by omega), if_neg (by omega)]
  · rw [hC.2.2.1 1 (by omega), hM 10 (by omega), if_neg (by omega)]
end BT1
