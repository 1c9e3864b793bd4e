/-! the law's order -/
section LO1
/-- a running best over a list -/
def rb (a : Nat → Nat → Bool) (sp : Nat) : List Nat → Nat → Nat
  | [], b => b
  | k :: M, b => rb a sp M (if k ≠ sp ∧ (10 ≤ b ∨ a k b = true) then k else b)
theorem pD_rb (kn : Nat → Bool) (a : Nat → Nat → Bool) (sp : Nat) : ∀ d k b, pD kn a sp d k b = rb a sp ((List.range' k d).filter kn) b
  | 0, _, _ => rfl
  | d + 1, k, b => by
    rw [pD, List.range'_succ, pD_rb kn a sp d (k + 1)]
    by_cases q : kn k = true
    · rw [List.filter_cons_of_pos q, rb]
      congr 1
      simp only [q, true_and]
    · rw [List.filter_cons_of_neg q]
      congr 1
      rw [if_neg (fun z => q z.2.1)]
/-- a strict order, total on P -/
def So (P : Nat → Prop) (a : Nat → Nat → Bool) : Prop := (∀ x, P x → x < 10) ∧ (∀ x y, P x → P y → x ≠ y → a x y = true ∨ a y x = true) ∧ (∀ x y, P x → P y → a x y = true → ¬ a y x = true) ∧ ∀ x y w, P x → P y → P w → a x y = true → a y w = true → a x w = true
theorem rb_spec {P : Nat → Prop} {a : Nat → Nat → Bool} (hS : So P a) (sp : Nat) : ∀ (M : List Nat) (b : Nat), (∀ k ∈ M, P k) → (b = 10 ∨ (P b ∧ b ≠ sp)) → (rb a sp M b = 10 ∧ b = 10 ∧ ∀ k ∈ M, k = sp) ∨ (P (rb a sp M b) ∧ rb a sp M b ≠ sp ∧ (rb a sp M b = b ∨ rb a sp M b ∈ M) ∧ (∀ k ∈ M, k ≠ sp → k ≠ rb a sp M b → a (rb a sp M b) k = true) ∧ (b ≠ 10 → b ≠ rb a sp M b → a (rb a sp M b) b = true)) := by
  obtain ⟨s1, s2, s3, s4⟩ := hS
  intro M
  induction M with
  | nil =>
    intro b hM hb
    rw [rb]
    rcases hb with hb | ⟨hb, hn⟩
    · exact Or.inl ⟨hb, hb, fun k hk => absurd hk List.not_mem_nil⟩
    · exact Or.inr ⟨hb, hn, Or.inl rfl, fun k hk => absurd hk List.not_mem_nil, fun _ z => absurd rfl z⟩
  | cons k M ih =>
    intro b hM hb
    rw [rb]
    have hk := hM k List.mem_cons_self
    have hM' : ∀ j ∈ M, P j := fun j hj => hM j (List.mem_cons_of_mem _ hj)
    by_cases c : k ≠ sp ∧ (10 ≤ b ∨ a k b = true)
    · rw [if_pos c]
      rcases ih k hM' (Or.inr ⟨hk, c.1⟩) with ⟨-, e, -⟩ | ⟨r1, r2, r3, r4, r5⟩
      · exact absurd (s1 k hk) (by omega)
      · refine Or.inr ⟨r1, r2, Or.inr ?_, fun j hj h1 h2 => ?_, fun h1 h2 => ?_⟩
        · rcases r3 with r3 | r3
          · exact List.mem_cons.mpr (Or.inl r3)
          · exact List.mem_cons_of_mem _ r3
        · rcases List.mem_cons.mp hj with hj | hj
          · subst hj
            exact r5 (by have := s1 j hk; omega) h2
          · exact r4 j hj h1 h2
        · rcases hb with hb | ⟨hb, hn⟩
          · exact absurd hb h1
          · have hakb : a k b = true := by
              rcases c.2 with c2 | c2
              · exact absurd (s1 b hb) (by omega)
              · exact c2
            by_cases q : k = rb a sp M k
            · rw [← q]
              exact hakb
            · exact s4 _ k b r1 hk hb (r5 (by have := s1 k hk; omega) q) hakb
    · rw [if_neg c]
      rcases ih b hM' hb with ⟨r1, r2, r3⟩ | ⟨r1, r2, r3, r4, r5⟩
      · refine Or.inl ⟨r1, r2, fun j hj => ?_⟩
        rcases List.mem_cons.mp hj with hj | hj
        · subst hj
          exact Classical.byContradiction (fun z => c ⟨z, Or.inl (by omega)⟩)
        · exact r3 j hj
      · refine Or.inr ⟨r1, r2, ?_, fun j hj h1 h2 => ?_, r5⟩
        · rcases r3 with r3 | r3
          · exact Or.inl r3
          · exact Or.inr (List.mem_cons_of_mem _ r3)
        · rcases List.mem_cons.mp hj with hj | hj
          · subst hj
            have hb10 : b ≠ 10 := fun z => c ⟨h1, Or.inl (by omega)⟩
            have hPb : P b := by
              rcases hb with hb | hb
              · exact absurd hb hb10
              · exact hb.1
            have nab : ¬ a j b = true := fun z => c ⟨h1, Or.inr z⟩
            by_cases q : j = b
            · rw [q]
              exact r5 hb10 (fun z => h2 (by rw [q]; exact z))
            · have abj : a b j = true := by
                rcases s2 b j hPb hk (fun z => q z.symm) with z | z
                · exact z
                · exact absurd z nab
              by_cases q2 : b = rb a sp M b
              · rw [← q2]
                exact abj
              · exact s4 _ b j r1 hPb hk (r5 hb10 q2) abj
          · exact r4 j hj h1 h2
theorem rb_eq {P : Nat → Prop} {a : Nat → Nat → Bool} (hS : So P a) (sp : Nat) {M M' : List Nat} (h1 : ∀ k ∈ M, P k) (h2 : ∀ k, k ∈ M ↔ k ∈ M') : rb a sp M 10 = rb a sp M' 10 := by
  have h1' : ∀ k ∈ M', P k := fun k hk => h1 k ((h2 k).mpr hk)
  rcases rb_spec hS sp M 10 h1 (Or.inl rfl) with ⟨a1, -, a3⟩ | ⟨a1, a2, a3, a4, -⟩
  · rcases rb_spec hS sp M' 10 h1' (Or.inl rfl) with ⟨b1, -, -⟩ | ⟨b1, b2, b3, -, -⟩
    · rw [a1, b1]
    · rcases b3 with b3 | b3
      · exact absurd (hS.1 _ b1) (by omega)
      · exact absurd (a3 _ ((h2 _).mpr b3)) b2
  · rcases a3 with a3 | a3
    · exact absurd (hS.1 _ a1) (by omega)
    rcases rb_spec hS sp M' 10 h1' (Or.inl rfl) with ⟨b1, -, b3⟩ | ⟨b1, b2, b3, b4, -⟩
    · exact absurd (b3 _ ((h2 _).mp a3)) a2
    · rcases b3 with b3 | b3
      · exact absurd (hS.1 _ b1) (by omega)
      by_cases q : rb a sp M 10 = rb a sp M' 10
      · exact q
      · exact absurd (b4 _ ((h2 _).mp a3) a2 q) (hS.2.2.1 _ _ a1 b1 (a4 _ ((h2 _).mpr b3) b2 (fun z => q z.symm)))
/-- since and late tell known keys apart -/
def Ds (g : Nat → Nat) (P : Nat → Prop) : Prop := (∀ x, P x → x < 10) ∧ ∀ x y, P x → P y → x ≠ y → g (107 + x) ≠ g (107 + y) ∧ g (117 + x) ≠ g (117 + y)
theorem So_ah {g : Nat → Nat} {P : Nat → Prop} (h : Ds g P) : So P (ah g) := by
  refine ⟨h.1, fun x y hx hy hn => ?_, fun x y hx hy => ?_, fun x y w hx hy hw => ?_⟩
  · have := h.2 x y hx hy hn
    unfold ah
    by_cases q : g 1 = 2
    · simp only [q, if_true, decide_eq_true_eq]
      omega
    · by_cases q1 : g 1 = 1
      · simp only [q1, if_true, Bool.or_eq_true, Bool.and_eq_true, decide_eq_true_eq, show ¬ (1 : Nat) = 2 by decide, if_false]
        omega
      · simp only [q, q1, if_false, decide_eq_true_eq]
        omega
  · unfold ah
    by_cases q : g 1 = 2
    · simp only [q, if_true, decide_eq_true_eq]
      omega
    · by_cases q1 : g 1 = 1
      · simp only [q1, if_true, Bool.or_eq_true, Bool.and_eq_true, decide_eq_true_eq, show ¬ (1 : Nat) = 2 by decide, if_false]
        omega
      · simp only [q, q1, if_false, decide_eq_true_eq]
        omega
  · unfold ah
    by_cases q : g 1 = 2
    · simp only [q, if_true, decide_eq_true_eq]
      omega
    · by_cases q1 : g 1 = 1
      · simp only [q1, if_true, Bool.or_eq_true, Bool.and_eq_true, decide_eq_true_eq, show ¬ (1 : Nat) = 2 by decide, if_false]
        omega
      · simp only [q, q1, if_false, decide_eq_true_eq]
        omega
/-- both rows hold the same keys, the one in the order of since, the other in that of late -/
def Od (g : Nat → Nat) (Mq Ml : List Nat) : Prop := (∀ k, k ∈ Mq ↔ k ∈ Ml) ∧ Mq.Pairwise (fun a b => g (117 + a) < g (117 + b)) ∧ Ml.Pairwise (fun a b => g (107 + a) < g (107 + b))
theorem pw_nodup {t : Nat → Nat} {M : List Nat} (h : M.Pairwise (fun a b => t a < t b)) : M.Nodup := List.nodup_iff_pairwise_ne.mpr (h.imp (fun hab e => by subst e; omega))
theorem pw_ne {t : Nat → Nat} : ∀ {M : List Nat}, M.Pairwise (fun a b => t a < t b) → ∀ x ∈ M, ∀ y ∈ M, x ≠ y → t x ≠ t y
  | [], _, x, hx, _, _, _ => absurd hx List.not_mem_nil
  | k :: M, h, x, hx, y, hy, hn => by
    obtain ⟨h1, h2⟩ := List.pairwise_cons.mp h
    rcases List.mem_cons.mp hx with ex | hx
    · rcases List.mem_cons.mp hy with ey | hy
      · exact absurd (ex.trans ey.symm) hn
      · have := h1 y hy
        subst ex
        omega
    · rcases List.mem_cons.mp hy with ey | hy
      · have := h1 x hx
        subst ey
        omega
      · exact pw_ne h2 x hx y hy hn
theorem Od_len {g : Nat → Nat} {Mq Ml : List Nat} (h : Od g Mq Ml) : Mq.length = Ml.length := ((List.perm_ext_iff_of_nodup (pw_nodup h.2.1) (pw_nodup (t := fun a => g (107 + a)) h.2.2)).mpr h.1).length_eq
theorem Od_Ds {g : Nat → Nat} {Mq Ml : List Nat} (h : Od g Mq Ml) (h10 : ∀ k ∈ Ml, k < 10) : Ds g (fun k => k ∈ Ml) := ⟨h10, fun x y hx hy hn => ⟨pw_ne (t := fun a => g (107 + a)) h.2.2 x hx y hy hn, pw_ne (t := fun a => g (117 + a)) h.2.1 x ((h.1 x).mpr hx) y ((h.1 y).mpr hy) hn⟩⟩
theorem pw_take {t : Nat → Nat} : ∀ {M : List Nat} {i : Nat} (hi : i < M.length), M.Pairwise (fun a b => t a < t b) → ∀ b ∈ M.take i, t b < t M[i]
  | [], i, hi, _, _, _ => absurd hi (Nat.not_lt_zero i)
  | k :: M, 0, _, _, b, hb => absurd hb List.not_mem_nil
  | k :: M, i + 1, hi, h, b, hb => by
    obtain ⟨h1, h2⟩ := List.pairwise_cons.mp h
    have hi' : i < M.length := Nat.lt_of_succ_lt_succ hi
    rw [List.take_succ_cons] at hb
    rcases List.mem_cons.mp hb with e | hb
    · subst e
      exact h1 _ (List.getElem_mem hi')
    · exact pw_take hi' h2 b hb
end LO1
