/-! the class's calls, the past beside -/
section GC1
/-- the class stands for g; t and c bound the total and the looks -/
def GC (t c : Nat) (h : Nat → Hp) (g : Nat → Nat) : Prop := ∃ (p n : Nat) (H : Nat → Nat → Nat), Cn (h 0) g ∧ In t c g ∧ Hc h p n H ∧ ∀ i, i < n → In t c (H i)
variable {t c t' c' : Nat} {h : Nat → Hp} {g g' : Nat → Nat}
theorem gc_9 (hG : GC t c h g) (σ : Hp) : GC t c (lm_uB h 9 σ) g := by
  obtain ⟨p, n, H, hC, hI, ⟨a1, a2, a3, a4, a5⟩, hIH⟩ := hG
  refine ⟨p, n, H, ?_, hI, ⟨?_, ?_, a3, a4, fun i hi => ?_⟩, hIH⟩
  · rw [uB_ne _ _ (by omega)]; exact hC
  · rw [uB_ne _ _ (by omega)]; exact a1
  · rw [uB_ne _ _ (by omega)]; exact a2
  · rw [uB_ne _ _ (by omega)]; exact a5 i hi
theorem gc_mono (hG : GC t c h g) (ht : t ≤ t') (hc : c ≤ c') (bt : t' ≤ 1000) (bc : c' ≤ 1000000) : GC t' c' h g := by
  obtain ⟨p, n, H, hC, hI, hH, hIH⟩ := hG
  exact ⟨p, n, H, hC, In_mono hI ht hc bt bc, hH, fun i hi => In_mono (hIH i hi) ht hc bt bc⟩
theorem gc_ok (hG : GC t c h g) {OP : Hp → Option (Int32 × Hp)} {r : Int32} (hop : ∃ τ, OP (h 0) = some (r, τ) ∧ Cn τ g') (hr : ¬ r < 0) (hIn' : In t' c' g') (ht : t ≤ t') (hc : c ≤ c') : ∃ h', cal h OP = some (r, h') ∧ GC t' c' h' g' := by
  obtain ⟨p, n, H, hC, hI, hH, hIH⟩ := hG
  have bt := hIn'.2.2.2.2.2.2.1
  have bc := hIn'.2.2.2.2.2.2.2
  obtain ⟨h1, k1, k2, k3, k4⟩ := c_prepare hC hI hH
  obtain ⟨τ, o1, o2⟩ := hop
  have z0 : h1 0 = h 0 := k4 0 (by omega)
  obtain ⟨h5, m1, m2, m3, m4⟩ := c_commit (Hc_0 k2 τ) (g := g) (by rw [uB_ne _ _ (by omega)]; exact k3) hr
  have hp := hH.2.2.1
  refine ⟨h5, ?_, (p + 1) % 5, puN n, puH n H g, ?_, hIn', m2, fun i hi => ?_⟩
  · unfold cal
    rw [k1, lm_bd_some, z0, o1, lm_b2_some, lm_lt_eq, m1, lm_b2_some]
  · rw [m3 0 (by omega), uB_same]; exact o2
  · unfold puN at hi
    unfold puH
    by_cases q : n < 4
    · rw [if_pos q] at hi
      rw [if_pos q]
      split
      · exact In_mono hI ht hc bt bc
      · exact In_mono (hIH i (by omega)) ht hc bt bc
    · rw [if_neg q] at hi
      rw [if_neg q]
      have := hH.2.2.2.1
      split
      · exact In_mono hI ht hc bt bc
      · exact In_mono (hIH (i + 1) (by omega)) ht hc bt bc
theorem gc_no (hG : GC t c h g) {OP : Hp → Option (Int32 × Hp)} {r : Int32} (hop : OP (h 0) = some (r, h 0)) (hr : r < 0) : ∃ h', cal h OP = some (r, h') ∧ GC t c h' g := by
  obtain ⟨p, n, H, hC, hI, hH, hIH⟩ := hG
  obtain ⟨h1, k1, k2, k3, k4⟩ := c_prepare hC hI hH
  have z0 : h1 0 = h 0 := k4 0 (by omega)
  have hp := hH.2.2.1
  refine ⟨lm_uB h1 0 (h 0), ?_, p, n, H, by rw [uB_same]; exact hC, hI, Hc_0 k2 _, hIH⟩
  unfold cal
  rw [k1, lm_bd_some, z0, hop, lm_b2_some, lm_lt_eq, c_commitNo hr, lm_b2_some]
theorem GC.cn (hG : GC t c h g) : Cn (h 0) g := by
  obtain ⟨p, n, H, hC, hI, hH, hIH⟩ := hG
  exact hC
theorem GC.inn (hG : GC t c h g) : In t c g := by
  obtain ⟨p, n, H, hC, hI, hH, hIH⟩ := hG
  exact hI
theorem gc_add0 (hG : GC t c h g) {k v : Nat} (hk : k < 10) (hv : v ≤ 99) (h6 : g 6 < 20) : ∃ h', F_X6_add h 0 (nI k) (nI v) = some (nI (g 6), h') ∧ GC t c h' (adO g k v) :=
  gc_ok hG (OP := fun σ => F_X4_insertRow σ 0 (nI k) (nI v)) (c_ins0 hG.cn hG.inn hk hv h6) (nI_nn _ (by omega)) (adO_In hG.inn hk hv h6) (Nat.le_refl _) (Nat.le_refl _)
theorem gc_add0F (hG : GC t c h g) {k v : Nat} (hk : k < 10) (hv : v ≤ 99) (h6 : g 6 = 20) : ∃ h', F_X6_add h 0 (nI k) (nI v) = some (-3, h') ∧ GC t c h' g :=
  gc_no hG (OP := fun σ => F_X4_insertRow σ 0 (nI k) (nI v)) (c_insFull0 hG.cn h6 hk hv) (by decide)
theorem gc_add1 (hG : GC t c h g) {k v : Nat} (hk : k < 10) (hv : v ≤ 99) (h5 : g 5 < 20) : ∃ h', F_X6_add h 1 (nI k) (nI v) = some (nI (g 5), h') ∧ GC t c h' (kp (adI g k v) k k) :=
  gc_ok hG (OP := fun σ => F_X4_insertRow σ 1 (nI k) (nI v)) (c_ins1 hG.cn hG.inn (by decide) hk hv h5) (nI_nn _ (by omega)) (kp_In (adI_In hG.inn hk hv h5) k k) (Nat.le_refl _) (Nat.le_refl _)
theorem gc_add1F (hG : GC t c h g) {k v : Nat} (hk : k < 10) (hv : v ≤ 99) (h5 : g 5 = 20) : ∃ h', F_X6_add h 1 (nI k) (nI v) = some (-3, h') ∧ GC t c h' g :=
  gc_no hG (OP := fun σ => F_X4_insertRow σ 1 (nI k) (nI v)) (c_insFull1 hG.cn h5 (by decide) hk hv) (by decide)
theorem gc_drop0 (hG : GC t c h g) (ht : t < 1000) {r : Nat} (hr : r < g 6) : ∃ h', F_X6_drop h 0 (nI r) = some (nI (g 6 - 1), h') ∧ GC (t + 1) c h' (drO g r) :=
  gc_ok hG (OP := fun σ => F_X4_removeRow σ 0 (nI r)) (c_rem0 hG.cn hG.inn hr) (nI_nn _ (by have := hG.inn.2.1.1; omega)) (drO_In hG.inn ht hr) (Nat.le_succ _) (Nat.le_refl _)
theorem gc_drop1 (hG : GC t c h g) {r : Nat} (hr : r < g 5) : ∃ h', F_X6_drop h 1 (nI r) = some (nI (g 5 - 1), h') ∧ GC t c h' (kp (drI g r) (g (17 + 2 * r)) (g (17 + 2 * r))) :=
  gc_ok hG (OP := fun σ => F_X4_removeRow σ 1 (nI r)) (c_rem1 hG.cn hG.inn (by decide) hr) (nI_nn _ (by have := hG.inn.1.1; omega)) (kp_In (drI_In hG.inn hr) _ _) (Nat.le_refl _) (Nat.le_refl _)
theorem hs_no {τ : Hp} {n : Nat} (h : τ 0 2 = nI n) (hn : n ≤ 20) {r : Nat} (hr : n ≤ r) (h31 : r < 2147483648) : F_X5_has τ (nI r) = some 0 := by
  rw [c_has h hn h31, if_neg (by omega)]
  rfl
theorem hs_yes {τ : Hp} {n : Nat} (h : τ 0 2 = nI n) (hn : n ≤ 20) {r : Nat} (hr : r < n) : F_X5_has τ (nI r) = some 1 := by
  rw [c_has h hn (by omega), if_pos hr]
  rfl
theorem gc_drop0N (hG : GC t c h g) {r : Nat} (hr : g 6 ≤ r) (h31 : r < 2147483648) : ∃ h', F_X6_drop h 0 (nI r) = some (-1, h') ∧ GC t c h' g := by
  have u1 : lm_sh 1 (h 0) 0 2 = nI (g 6) := hG.cn.1.2.1.1
  exact gc_no hG (OP := fun σ => F_X4_removeRow σ 0 (nI r)) (r := -1) (by
    unfold F_X4_removeRow
    rw [lm_br, if_pos rfl, hs_no u1 hG.inn.2.1.1 hr h31, lm_bd_some, lm_br, if_neg (by decide)]) (by decide)
theorem gc_drop1N (hG : GC t c h g) {r : Nat} (hr : g 5 ≤ r) (h31 : r < 2147483648) : ∃ h', F_X6_drop h 1 (nI r) = some (-1, h') ∧ GC t c h' g := by
  have u1 : lm_sh 4 (h 0) 0 2 = nI (g 5) := hG.cn.1.1.1
  exact gc_no hG (OP := fun σ => F_X4_removeRow σ 1 (nI r)) (r := -1) (by
    unfold F_X4_removeRow
    rw [lm_br, if_neg (by decide), hs_no u1 hG.inn.1.1 hr h31, lm_bd_some, lm_br, if_neg (by decide)]) (by decide)
theorem gc_change (hG : GC t c h g) {r k v : Nat} (hr : r < g 5) (hk : k < 10) (hv : v ≤ 99) : ∃ h', F_X6_change h (nI r) (nI k) (nI v) = some (nI (kno (kp (chG g r k v) (g (17 + 2 * r)) k)), h') ∧ GC t c h' (kp (chG g r k v) (g (17 + 2 * r)) k) :=
  gc_ok hG (OP := fun σ => F_X4_rewriteRow σ (nI r) (nI k) (nI v)) (c_rewrite hG.cn hG.inn hr hk hv) (nI_nn _ (by have := kno_le (kp (chG g r k v) (g (17 + 2 * r)) k); omega)) (kp_In (chG_In hG.inn hr hk hv) _ _) (Nat.le_refl _) (Nat.le_refl _)
theorem gc_changeN (hG : GC t c h g) {r : Nat} (hr : g 5 ≤ r) (h31 : r < 2147483648) (x y : Int32) : ∃ h', F_X6_change h (nI r) x y = some (-1, h') ∧ GC t c h' g := by
  have u1 : lm_sh 4 (h 0) 0 2 = nI (g 5) := hG.cn.1.1.1
  exact gc_no hG (OP := fun σ => F_X4_rewriteRow σ (nI r) x y) (r := -1) (by
    unfold F_X4_rewriteRow
    rw [hs_no u1 hG.inn.1.1 hr h31, lm_bd_some, lm_br, if_pos rfl]) (by decide)
theorem gc_again (hG : GC t c h g) : ∃ h', F_X6_again h = some (nI (g 8), h') ∧ GC t c h' (agG g) := by
  have b8 : g 8 < 2147483648 := by
    have hI := hG.inn
    have h7 := hI.2.1.2.1
    have h6' := hI.2.1.1
    obtain ⟨h8, -, ht, -⟩ := hI.2.2.2.2
    omega
  exact gc_ok hG (OP := F_X4_beginAgain) (c_again hG.cn hG.inn) (nI_nn _ b8) (agG_In hG.inn) (Nat.le_refl _) (Nat.le_refl _)
theorem gc_forget (hG : GC t c h g) : ∃ h', F_X6_forget h = some (nI (kno g), h') ∧ GC t c h' (la g) :=
  gc_ok hG (OP := F_X4_throwAllOut) (c_forget hG.cn hG.inn) (nI_nn _ (by have := kno_le g; omega)) (la_In hG.inn) (Nat.le_refl _) (Nat.le_refl _)
theorem gc_step (hG : GC t c h g) {k : Nat} (h1 : 1 ≤ k) (h20 : k ≤ 20) (hc : c + 20 ≤ 1000000) (hq : g 7 < g 6) : ∃ h', F_X6_step h (nI k) = some (nI (stp g k).2, h') ∧ GC t (c + 20) h' (stp g k).1 := by
  have hI := hG.inn
  have hJ := stp_In hI (n := k) (by omega)
  have hb : (stp g k).2 ≤ 440 := by
    have := stD_le k g 0 hI.1.1 hI.2.1.1
    unfold stp
    dsimp only
    omega
  exact gc_ok hG (OP := fun σ => F_X4_walk σ (nI k)) (c_walk hG.cn hI h1 h20 (by omega) hq) (nI_nn _ (by omega)) (In_mono hJ (Nat.le_refl t) (show c + k ≤ c + 20 by omega) hI.2.2.2.2.2.2.1 hc) (Nat.le_refl _) (by omega)
theorem gc_stepN (hG : GC t c h g) {k : Nat} (h1 : 1 ≤ k) (h20 : k ≤ 20) (hq : g 7 = g 6) : ∃ h', F_X6_step h (nI k) = some (-2, h') ∧ GC t c h' g := by
  have hI := hG.inn
  have b6 := hI.2.1.1
  have u1 : lm_sh 1 (h 0) 0 2 = nI (g 6) := hG.cn.1.2.1.1
  have p1 : h 0 0 6 = nI (g 7) := hG.cn.1.2.2.1.1
  exact gc_no hG (OP := fun σ => F_X4_walk σ (nI k)) (r := -2) (by
    unfold F_X4_walk
    rw [lm_br, if_neg (show ¬ nI k < 1 from nI_nlt (a := k) (b := 1) h1 (by omega)), lm_br, if_pos (show nI k ≤ 20 from nI_le (a := k) (b := 20) h20 (by omega)), c_size, lm_bd_some, u1, p1, lm_br, if_neg (nI_nlt (by omega) (by omega))]) (by decide)
theorem gc_set (hG : GC t c h g) {i x : Nat} (hi : i < 5) (hx : x ≤ hsN i) : ∃ h', F_X6_set h (nI i) (nI x) = some (nI (seN g i x), h') ∧ GC t c h' (seG g i x) := by
  have hb : seN g i x ≤ 10 := by
    unfold seN
    split
    · exact mr_le _ _
    · exact kno_le _
  exact gc_ok hG (OP := fun σ => F_X4_adjust σ (nI i) (nI x)) (c_adjust hG.cn hG.inn hi hx) (nI_nn _ (by omega)) (seG_In hG.inn hi hx) (Nat.le_refl _) (Nat.le_refl _)
end GC1
