/-! rows out of the pad, on both sides -/
section PF1
def sz (x1 : Int32) (g : Nat → Nat) : Nat := if x1 = 0 then g 6 else g 5
theorem insert_both {σ μ : Hp} {g : Nat → Nat} {t c : Nat} (hC : Cn σ g) (hM : Mo μ g) (hI : In t c g) (x1 : Int32) {k v : Nat} (hk : k < 10) (hv : v ≤ 99) (hs : sz x1 g < 20) : ∃ σ' μ' g', F_X4_insertRow σ x1 (nI k) (nI v) = some (nI (sz x1 g), σ') ∧ F_X7_adds μ x1 (nI k) (nI v) = some (nI (sz x1 g), μ') ∧ Cn σ' g' ∧ Mo μ' g' ∧ In t c g' ∧ Fr μ μ' ∧ sz x1 g' = sz x1 g + 1 := by
  unfold sz at hs ⊢
  by_cases q : x1 = 0
  · subst q
    rw [if_pos rfl] at hs
    obtain ⟨σ', a1, a2⟩ := c_ins0 hC hI hk hv hs
    obtain ⟨μ', b1, b2, b3⟩ := o_adds0 hM hs k v
    refine ⟨σ', μ', adO g k v, ?_, ?_, a2, b2, adO_In hI hk hv hs, b3, ?_⟩
    · rw [if_pos rfl]; exact a1
    · rw [if_pos rfl]; exact b1
    · rw [if_pos rfl, if_pos rfl]
      unfold adO
      rw [un_same]
  · rw [if_neg q] at hs
    obtain ⟨σ', a1, a2⟩ := c_ins1 hC hI q hk hv hs
    obtain ⟨μ', b1, b2, b3⟩ := o_adds1 hM hI hs q hk hv
    refine ⟨σ', μ', kp (adI g k v) k k, ?_, ?_, a2, b2, kp_In (adI_In hI hk hv hs) k k, b3, ?_⟩
    · rw [if_neg q]; exact a1
    · rw [if_neg q]; exact b1
    · rw [if_neg q, if_neg q, kp_Sm (adI g k v) k k 5 (by omega) (by omega)]
      unfold adI
      rw [un_same]
variable {C : Nat → Nat} {n : Nat}
/-- class and reference in the midst of a pad -/
def FI (C : Nat → Nat) (n : Nat) (w : Bool) (K i : Nat) (t c : Nat) (h : Nat → Hp) (μ : Hp) (g : Nat → Nat) : Prop := Cn (h 0) g ∧ Mo μ g ∧ In t c g ∧ CP (lm_sh 1 (h 8)) C n ∧ h 8 1 2 = nI (wN w) ∧ h 8 1 3 = nI (bk C w i) ∧ RD μ C w K ∧ μ 0 12 = nI K
def Fi (h h' : Nat → Hp) : Prop := (∀ b, b ≠ 0 → b ≠ 8 → h' b = h b) ∧ ∀ c, c ≠ 1 → c ≠ 2 → h' 8 c = h 8 c
theorem Fi.rf {h : Nat → Hp} : Fi h h := ⟨fun _ _ _ => rfl, fun _ _ _ => rfl⟩
theorem Fi.trans {h h' h'' : Nat → Hp} (a : Fi h h') (b : Fi h' h'') : Fi h h'' := ⟨fun x p q => (b.1 x p q).trans (a.1 x p q), fun x p q => (b.2 x p q).trans (a.2 x p q)⟩
theorem RD_Fr {μ μ' : Hp} {w : Bool} {K : Nat} (h : RD μ C w K) (e : μ' 7 = μ 7) : RD μ' C w K := fun j hj => by
  rw [e]
  exact h j hj
/-- the class takes the next item -/
theorem FI_next {w : Bool} {K i t c : Nat} {h : Nat → Hp} {μ : Hp} {g : Nat → Nat} (hS : FI C n w K i t c h μ g) (hF : Fl C w n K) (hi : i < K) : ∃ τ, F_X3_next (lm_sh 1 (h 8)) = some (1, τ) ∧ CP τ C n ∧ τ 0 2 = nI (wN w) ∧ τ 0 3 = nI (bk C w (i + 1)) ∧ τ 0 5 = nI (pos C w i) ∧ VA C w (pos C w i) (fun j => τ 0 (6 + j)) ∧ VA C w (pos C w i) (fun j => μ 7 (4 * i + j)) ∧ pos C w i ≤ 60 := by
  obtain ⟨hC, hM, hI, hP, c2, c3, hD, o12⟩ := hS
  obtain ⟨f1, f2, f3, f4⟩ := hF
  have hz := hP.2.2.2
  have n60 := hP.2.1
  obtain ⟨hA, b3⟩ := Gd_At hz (k := i) (fun j hj => f3 j (by omega))
  obtain ⟨ok, pn⟩ := f4 i hi
  obtain ⟨τ1, k1, k2, k3, k4, k5, k6⟩ := c_next hP w c2 c3 hA (by omega)
  refine ⟨τ1, ?_, hP.of (k5 1 (by omega)) (k6 1 (by omega)), (k5 2 (by omega)).trans c2, k2, k3, k4 ok, (hD i hi).1, by omega⟩
  rw [k1, if_pos ok]
theorem pad_put (σ : Hp) {τ : Hp} {w : Bool} {i : Nat} (hP : CP τ C n) (h2 : τ 0 2 = nI (wN w)) (h3 : τ 0 3 = nI (bk C w i)) : CP (lm_sh 1 (lm_sb σ 1 2 τ)) C n ∧ lm_sb σ 1 2 τ 1 2 = nI (wN w) ∧ lm_sb σ 1 2 τ 1 3 = nI (bk C w i) := by
  have e : lm_sb σ 1 2 τ 1 = τ 0 := sb1_0 σ τ
  refine ⟨hP.of (by rw [sb1_0]) (sb1_1 _ _), ?_, ?_⟩
  · rw [e]; exact h2
  · rw [e]; exact h3
theorem rOk_b {a : Nat} {τ : Hp} (hP : CP τ C n) (ok : rOk C a) : rK C a < 10 ∧ rV C a ≤ 99 := by
  have b1 : nV C 9 a ≤ 9 := nV_b hP (by omega) ok.1
  have b2 : nV C 99 (nE C 9 a + 1) ≤ 99 := nV_b hP (by omega) ok.2.2
  exact ⟨show nV C 9 a < 10 by omega, b2⟩
theorem fill_1 {K i t c m m' : Nat} {h : Nat → Hp} {μ : Hp} {g : Nat → Nat} {x1 z : Int32} (hS : FI C n false K i t c h μ g) (hF : Fl C false n K) (hi : i < K) (hs : sz x1 g < 20) : ∃ h' μ' g', F_X6_fill_L66 (m + 1) h x1 (nI K) (nI i) = F_X6_fill_L66 m h' x1 (nI K) (nI (i + 1)) ∧ F_X7_fill_L52 (m' + 1) μ x1 z (nI i) = F_X7_fill_L52 m' μ' x1 (nI (sz x1 g)) (nI (i + 1)) ∧ FI C n false K (i + 1) t c h' μ' g' ∧ sz x1 g' = sz x1 g + 1 ∧ Fi h h' ∧ Fr μ μ' := by
  obtain ⟨τ, k1, k2, k3, k4, k5, k6, k7, k8⟩ := FI_next hS hF hi
  obtain ⟨hC, hM, hI, hP, c2, c3, hD, o12⟩ := hS
  have hK := hF.2.1
  have ok : rOk C (pos C false i) := iOk_r.mp (hF.2.2.2 i hi).1
  obtain ⟨b1, b2⟩ := rOk_b hP ok
  obtain ⟨σ', μ', g', a1, a2, a3, a4, a5, a6, a7⟩ := insert_both hC hM hI x1 b1 b2 hs
  have v : τ 0 7 = nI (rK C (pos C false i)) ∧ τ 0 8 = nI (rV C (pos C false i)) := by
    unfold VA at k6
    rw [if_neg (by decide)] at k6
    exact k6
  have v' : μ 7 (4 * i + 1) = nI (rK C (pos C false i)) ∧ μ 7 (4 * i + 2) = nI (rV C (pos C false i)) := by
    unfold VA at k7
    rw [if_neg (by decide)] at k7
    exact k7
  obtain ⟨p1, p2, p3⟩ := pad_put (h 8) k2 k3 k4
  have e1 : F_X3_first (lm_sh 1 (lm_sb (h 8) 1 2 τ)) = some (nI (rK C (pos C false i))) := by
    unfold F_X3_first
    rw [sb1_0, v.1]
  have e2 : F_X3_second (lm_sh 1 (lm_sb (h 8) 1 2 τ)) = some (nI (rV C (pos C false i))) := by
    unfold F_X3_second
    rw [sb1_0, v.2]
  refine ⟨lm_uB (lm_uB h 8 (lm_sb (h 8) 1 2 τ)) 0 σ', μ', g', ?_, ?_, ⟨?_, a4, a5, ?_, ?_, ?_, RD_Fr hD (a6 7 (by omega)), ?_⟩, a7, ⟨fun b h0 h8 => ?_, fun d h1 h2 => ?_⟩, a6⟩
  · rw [F_X6_fill_L66, lm_br, if_neg (nI_ge hi (by omega)), k1, lm_b2_some, lm_lt_eq, brF (by decide), uB_same, e1, e2, lm_bd_some, lm_bd_some, uB_ne _ _ (by omega), a1, lm_b2_some, lm_lt_eq, nI_1]
  · rw [F_X7_fill_L52, lm_br, o12, if_neg (nI_ge hi (by omega)), ev_k4, ev_mul, ev_k1, ev_k2, ev_add, ev_add, ev_gi (by omega) (by omega), ev_gi (by omega) (by omega), ev_cl (by omega), ev_cl (by omega), v'.1, v'.2, a2, lm_b2_some, ev_add]
  · rw [uB_same]; exact a3
  · rw [uB_ne _ _ (by omega), uB_same]; exact p1
  · rw [uB_ne _ _ (by omega), uB_same]; exact p2
  · rw [uB_ne _ _ (by omega), uB_same]; exact p3
  · rw [a6 0 (by omega)]; exact o12
  · rw [uB_ne _ _ h0, uB_ne _ _ h8]
  · rw [uB_ne _ _ (by omega), uB_same, sb1_o _ _ h1 h2]
theorem fill_L {K t c : Nat} {x1 : Int32} (hF : Fl C false n K) : ∀ d i m m' (h : Nat → Hp) (μ : Hp) (g : Nat → Nat) (z : Int32), i + d = K → d < m → d < m' → FI C n false K i t c h μ g → sz x1 g + d ≤ 20 → (0 < i → z + 1 = nI (sz x1 g)) → ∃ y y' hy μy gy zy, F_X6_fill_L66 m h x1 (nI K) (nI i) = F_X6_fill_L66 (y + 1) hy x1 (nI K) (nI K) ∧ F_X7_fill_L52 m' μ x1 z (nI i) = F_X7_fill_L52 (y' + 1) μy x1 zy (nI K) ∧ FI C n false K K t c hy μy gy ∧ zy + 1 = nI (sz x1 gy) ∧ sz x1 gy ≤ 20 ∧ Fi h hy ∧ Fr μ μy := by
  intro d
  induction d with
  | zero =>
    intro i m m' h μ g z hi hm hm' hS hs hz
    obtain ⟨y, hy⟩ : ∃ y, m = y + 1 := ⟨m - 1, by omega⟩
    obtain ⟨y', hy'⟩ : ∃ y, m' = y + 1 := ⟨m' - 1, by omega⟩
    have e : i = K := by omega
    subst hy
    subst hy'
    subst e
    have := hF.1
    exact ⟨y, y', h, μ, g, z, rfl, rfl, hS, hz (by omega), by omega, Fi.rf, Fr.rf⟩
  | succ d ih =>
    intro i m m' h μ g z hi hm hm' hS hs hz
    obtain ⟨y, hy⟩ : ∃ y, m = y + 1 := ⟨m - 1, by omega⟩
    obtain ⟨y', hy'⟩ : ∃ y, m' = y + 1 := ⟨m' - 1, by omega⟩
    subst hy
    subst hy'
    obtain ⟨h1, μ1, g1, a1, a2, a3, a4, a5, a6⟩ := fill_1 (m := y) (m' := y') (x1 := x1) (z := z) hS hF (by omega) (by omega)
    obtain ⟨u, u', hy, μy, gy, zy, b1, b2, b3, b4, b5, b6, b7⟩ := ih (i + 1) y y' h1 μ1 g1 (nI (sz x1 g)) (by omega) (by omega) (by omega) a3 (by omega) (fun _ => by rw [a4, nI_1])
    exact ⟨u, u', hy, μy, gy, zy, a1.trans b1, a2.trans b2, b3, b4, b5, a5.trans b6, a6.trans b7⟩
/-- a change is put into the past -/
theorem top_commit {t c t' c' : Nat} {h : Nat → Hp} {μ' : Hp} {g g' : Nat → Nat} {p n : Nat} {H : Nat → Nat → Nat} {r : Int32} (hC : Cn (h 0) g') (hP : Cn (h (3 + p)) g) (hI : In t c g) (hH : Hc h p n H) (hIH : ∀ i, i < n → In t c (H i)) (hr : ¬ r < 0) (h4 : Hs μ' (puN n) (puH n H g)) (h6 : μ' 0 6 = 0) (hMo : Mo μ' g') (hIn' : In t' c' g') (ht : t ≤ t') (hc : c ≤ c') : ∃ h', F_X1_commit h r = some (r, h') ∧ R0 t' c' h' μ' ∧ (∀ b, b ≠ 8 → h' b = h b) ∧ ∀ d, d ≠ 3 → h' 8 d = h 8 d := by
  have bt := hIn'.2.2.2.2.2.2.1
  have bc := hIn'.2.2.2.2.2.2.2
  obtain ⟨h5, m1, m2, m3, m4⟩ := c_commit hH hP hr
  refine ⟨h5, m1, ⟨g', (p + 1) % 5, puN n, puH n H g, by rw [m3 0 (by omega)]; exact hC, hMo, hIn', m2, h4, fun i hi => ?_, h6⟩, m3, m4⟩
  unfold puN at hi
  unfold puH
  have := hH.2.2.2.1
  by_cases q : n < 4
  · rw [if_pos q] at hi
    rw [if_pos q]
    split
    · exact In_mono hI ht hc bt bc
    · exact In_mono (hIH i (by omega)) ht hc bt bc
  · rw [if_neg q] at hi
    rw [if_neg q]
    split
    · exact In_mono hI ht hc bt bc
    · exact In_mono (hIH (i + 1) (by omega)) ht hc bt bc
theorem Hc_of {h h' : Nat → Hp} {p n : Nat} {H : Nat → Nat → Nat} (hH : Hc h p n H) (e : h' 8 3 = h 8 3) (f : ∀ b, 3 ≤ b → b < 8 → h' b = h b) : Hc h' p n H := by
  obtain ⟨a1, a2, a3, a4, a5⟩ := hH
  exact ⟨by rw [e]; exact a1, by rw [e]; exact a2, a3, a4, fun i hi => by rw [f _ (by omega) (by omega)]; exact a5 i hi⟩
theorem Hs_of {μ μ' : Hp} {n : Nat} {H : Nat → Nat → Nat} (h : Hs μ n H) (e : μ' 0 5 = μ 0 5) (f : μ' 2 = μ 2) : Hs μ' n H := ⟨by rw [e]; exact h.1, h.2.1, fun i hi j hj => by rw [f]; exact h.2.2 i hi j hj⟩
theorem tp_fill {t c : Nat} {h : Nat → Hp} {μ : Hp} (hR : RR t c h μ) (x1 : Int32) : ∃ r h' μ', F_X6_fill h x1 = some (r, h') ∧ F_X7_fill μ x1 = some (r, μ') ∧ RR t c h' μ' := by
  obtain ⟨r, τ', μ1, C, n, i1, i2, hR2, hFa, hP', hQ', w2, hK⟩ := pad_fault hR false
  have i1' : F_X3_findFault (lm_sh 1 (h 8)) 0 = _ := i1
  have i2' : F_X7_fault μ 0 = _ := i2
  obtain ⟨h2, hh2⟩ : ∃ h2, h2 = lm_uB h 8 (lm_sb (h 8) 1 2 τ') := ⟨_, rfl⟩
  have e8 : h2 8 = lm_sb (h 8) 1 2 τ' := by rw [hh2, uB_same]
  unfold F_X6_fill F_X7_fill
  rw [i1', i2', lm_b2_some, lm_b2_some, lm_lt_eq, ← hh2]
  rw [← hh2] at hR2
  by_cases q : r = -4
  · obtain ⟨K, k1, k2, k3, k4⟩ := hK q
    obtain ⟨g, p, N, H, hC, hM, hI, hH, hHs, hIH, h6⟩ := id hR2.1
    have hit : F_X3_items (lm_sh 1 (h2 8)) = some (nI K) := by
      unfold F_X3_items
      rw [e8, sb1_0, k1]
    have s0 : F_X5_size (lm_sh 1 (h2 0)) = some (nI (g 6)) := congrArg some hC.1.2.1.1
    have s1 : F_X5_size (lm_sh 4 (h2 0)) = some (nI (g 5)) := congrArg some hC.1.1.1
    have m6 : μ1 1 6 = nI (g 6) := hM 6 (by omega)
    have m5 : μ1 1 5 = nI (g 5) := hM 5 (by omega)
    have b5 := hI.1.1
    have b6 := hI.2.1.1
    have K30 := k4.2.1
    rw [lm_br, if_pos q, lm_br, if_pos q, hit, lm_bd_some]
    have main : sz x1 g + K ≤ 20 → ∃ r h' μ', (lm_bd (F_X1_prepare h2) fun h9 => lm_bd (F_X3_open (lm_sh 1 (h9 8)) (0 : Int32)) fun τ10 => lm_lt (lm_uB h9 8 (lm_sb (h9 8) 1 2 τ10)) fun h11 => F_X6_fill_L66 1000 h11 x1 (nI K) (0 : Int32)) = some (r, h') ∧ (lm_bd (F_X7_changes μ1) fun σ6 => F_X7_fill_L52 1000 σ6 x1 (0 : Int32) (0 : Int32)) = some (r, μ') ∧ RR t c h' μ' := by
      intro hs
      obtain ⟨h9, p1, p2, p3, p4⟩ := c_prepare hC hI hH
      obtain ⟨μ4, c1, c2, c3, c4, c5⟩ := o_changes hM hHs h6
      have hp := hH.2.2.1
      have z8 : h9 8 = h2 8 := p4 8 (by omega)
      have hop : F_X3_open (lm_sh 1 (h9 8)) 0 = some (lm_u (lm_u (lm_sh 1 (h9 8)) 0 2 0) 0 3 0) := by
        unfold F_X3_open
        rw [lm_gd, if_pos (Or.inl rfl), lm_lt_eq, lm_lt_eq]
      have P9 : CP (lm_sh 1 (h9 8)) C n := by
        rw [z8, e8]
        exact hP'.of (by rw [sb1_0]) (sb1_1 _ _)
      obtain ⟨y1, y2, y3⟩ := pad_put (w := false) (i := 0) (h9 8) ((P9.u (i := 2) (by omega) 0).u (i := 3) (by omega) 0) (by rw [lu_ne _ _ (by omega), lu_same]; rfl) (lu_same _ _ _ _)
      obtain ⟨h11, hh⟩ : ∃ h11, h11 = lm_uB h9 8 (lm_sb (h9 8) 1 2 (lm_u (lm_u (lm_sh 1 (h9 8)) 0 2 0) 0 3 0)) := ⟨_, rfl⟩
      have z11 : h11 8 = lm_sb (h9 8) 1 2 (lm_u (lm_u (lm_sh 1 (h9 8)) 0 2 0) 0 3 0) := by rw [hh, uB_same]
      have zb : ∀ b, b ≠ 8 → h11 b = h9 b := fun b hb => by rw [hh, uB_ne _ _ hb]
      have S : FI C n false K 0 t c h11 μ4 g := by
        refine ⟨?_, c2, hI, ?_, ?_, ?_, RD_Fr k3 (c5 7 (by omega) (by omega)), ?_⟩
        · rw [zb 0 (by omega), p4 0 (by omega)]; exact hC
        · rw [z11]; exact y1
        · rw [z11]; exact y2
        · rw [z11]; exact y3
        · rw [c4 12 (by omega)]; exact k2
      obtain ⟨u, u', hy, μy, gy, zy, b1, b2, b3, b4, b5, b6, b7⟩ := fill_L (x1 := x1) k4 K 0 1000 1000 h11 μ4 g 0 (by omega) (by omega) (by omega) S (by omega) (fun z => absurd z (by omega))
      obtain ⟨d1, d2, d3, d4, d5, d6, d7, d8⟩ := b3
      obtain ⟨h14, hh14⟩ : ∃ h14, h14 = lm_uB hy 8 (lm_sb (hy 8) 1 2 (lm_u (lm_sh 1 (hy 8)) 0 1 0)) := ⟨_, rfl⟩
      have v8 : h14 8 = lm_sb (hy 8) 1 2 (lm_u (lm_sh 1 (hy 8)) 0 1 0) := by rw [hh14, uB_same]
      have vb : ∀ b, b ≠ 8 → h14 b = hy b := fun b hb => by rw [hh14, uB_ne _ _ hb]
      have v1 : ∀ d, d ≠ 1 → d ≠ 2 → h14 8 d = h2 8 d := fun d a b => by rw [v8, sb1_o _ _ a b, b6.2 d a b, z11, sb1_o _ _ a b, z8]
      have vB : ∀ b, b ≠ 0 → b ≠ 8 → h14 b = h9 b := fun b a e => by rw [vb b e, b6.1 b a e, zb b e]
      have hemp : F_X3_empty (lm_sh 1 (hy 8)) = some (lm_sh 1 (hy 8) 0 1, lm_u (lm_sh 1 (hy 8)) 0 1 0) := rfl
      have C14 : Cn (h14 0) gy := by rw [vb 0 (by omega)]; exact d1
      have o14 : F_X5_size (lm_sh 1 (h14 0)) = some (nI (gy 6)) := congrArg some C14.1.2.1.1
      have i14 : F_X5_size (lm_sh 4 (h14 0)) = some (nI (gy 5)) := congrArg some C14.1.1.1
      have Mz : Mo (lm_u μy 0 8 0) gy := fun j hj => by rw [lu_c _ _ _ (by omega)]; exact d2 j hj
      obtain ⟨h', t1, t2, t3, t4⟩ := top_commit (h := h14) (μ' := lm_u μy 0 8 0) (g := g) (g' := gy) (p := p) (n := N) (H := H) (r := nI (sz x1 gy)) C14 (by rw [vB _ (by omega) (by omega)]; exact p3) hI (Hc_of p2 (by rw [v1 3 (by omega) (by omega), ← z8]) (fun b l1 l2 => vB b (by omega) (by omega))) hIH (nI_nn _ (by omega)) (Hs_of c3 (by rw [lu_ne _ _ (by omega), b7 0 (by omega)]) (by rw [lu_c _ _ _ (by omega), b7 2 (by omega)])) (by rw [lu_ne _ _ (by omega), b7 0 (by omega), c4 6 (by omega)]; exact h6) Mz d3 (Nat.le_refl _) (Nat.le_refl _)
      refine ⟨nI (sz x1 gy), h', lm_u μy 0 8 0, ?_, ?_, t2, ?_, ?_, ?_⟩
      · rw [p1, lm_bd_some, hop, lm_bd_some, lm_lt_eq, ← hh]
        refine b1.trans ?_
        rw [F_X6_fill_L66, lm_br, if_pos (nI_le (Nat.le_refl _) (by omega)), hemp, lm_b2_some, lm_lt_eq, ← hh14, lm_br]
        by_cases x0 : x1 = 0
        · have e : sz x1 gy = gy 6 := if_pos x0
          rw [e] at t1
          rw [if_pos x0, o14, lm_bd_some, t1, lm_b2_some, e]
        · have e : sz x1 gy = gy 5 := if_neg x0
          rw [e] at t1
          rw [if_neg x0, i14, lm_bd_some, t1, lm_b2_some, e]
      · rw [c1, lm_bd_some]
        refine b2.trans ?_
        rw [F_X7_fill_L52, lm_br, d8, if_pos (nI_le (Nat.le_refl _) (by omega)), lm_lt_eq, b4]
      · have hk := hR2.2.1
        unfold Rk at hk ⊢
        rw [t4 0 (by omega), v1 0 (by omega) (by omega), t3 2 (by omega), vB 2 (by omega) (by omega), p4 2 (by omega), lu_ne _ (c := 0) (i := 8) (j := 4) _ (by omega), lu_c _ (c := 0) (d := 3) _ _ (by omega), b7 0 (by omega), b7 3 (by omega), c4 4 (by omega), c5 3 (by omega) (by omega)]
        exact hk
      · refine ⟨fun _ => 0, 0, CP_0 ?_, RP_0 (lu_same _ _ _ _)⟩
        show h' 8 (1 + 0) 1 = 0
        rw [t4 _ (by omega), v8]
        show lm_sh 1 (lm_sb (hy 8) 1 2 (lm_u (lm_sh 1 (hy 8)) 0 1 0)) 0 1 = 0
        rw [sb1_0, lu_same]
      · have hs' := hR2.2.2.2
        unfold Rs at hs' ⊢
        rw [t4 0 (by omega), v1 0 (by omega) (by omega), lu_ne _ (c := 0) (i := 8) (j := 9) _ (by omega), lu_c _ (c := 0) (d := 6) _ _ (by omega), b7 0 (by omega), b7 6 (by omega), c4 9 (by omega), c5 6 (by omega) (by omega)]
        exact hs'
    rw [lm_br, lm_br]
    by_cases x0 : x1 = 0
    · have e : sz x1 g = g 6 := if_pos x0
      rw [if_pos x0, if_pos x0, s0, lm_bd_some, m6, k2, ev_add, lm_br, lm_br]
      by_cases l : g 6 + K ≤ 20
      · rw [if_pos (show nI (g 6 + K) ≤ (20 : Int32) from nI_le (b := 20) l (by omega))]
        rw [if_pos (show nI (g 6 + K) ≤ (20 : Int32) from nI_le (b := 20) l (by omega))]
        exact main (by omega)
      · rw [if_neg (show ¬ nI (g 6 + K) ≤ (20 : Int32) from nI_ge (a := 20) (by omega) (by omega))]
        rw [if_neg (show ¬ nI (g 6 + K) ≤ (20 : Int32) from nI_ge (a := 20) (by omega) (by omega))]
        exact ⟨-3, h2, μ1, rfl, rfl, hR2⟩
    · have e : sz x1 g = g 5 := if_neg x0
      rw [if_neg x0, if_neg x0, s1, lm_bd_some, m5, k2, ev_add, lm_br, lm_br]
      by_cases l : g 5 + K ≤ 20
      · rw [if_pos (show nI (g 5 + K) ≤ (20 : Int32) from nI_le (b := 20) l (by omega))]
        rw [if_pos (show nI (g 5 + K) ≤ (20 : Int32) from nI_le (b := 20) l (by omega))]
        exact main (by omega)
      · rw [if_neg (show ¬ nI (g 5 + K) ≤ (20 : Int32) from nI_ge (a := 20) (by omega) (by omega))]
        rw [if_neg (show ¬ nI (g 5 + K) ≤ (20 : Int32) from nI_ge (a := 20) (by omega) (by omega))]
        exact ⟨-3, h2, μ1, rfl, rfl, hR2⟩
  · rw [lm_br, if_neg q, lm_br, if_neg q]
    exact ⟨-2, h2, μ1, rfl, rfl, hR2⟩
end PF1
