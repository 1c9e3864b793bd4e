/-! the law's numbers stand for g; making room -/
section LS1
def Lk (σ : Hp) (g : Nat → Nat) (Mq Ml : List Nat) : Prop := lr_R (σ 3) Mq ∧ lr_R (σ 4) Ml ∧ (∀ k, k < 10 → 0 < g (97 + k) → σ 5 k = nI (g (97 + k))) ∧ Od g Mq Ml ∧ ∀ k, k ∈ Ml ↔ k < 10 ∧ 0 < g (97 + k)
def Ls (σ : Hp) (g : Nat → Nat) (Mq Ml : List Nat) : Prop := Lu σ g ∧ Li σ g ∧ Lk σ g Mq Ml
def LR (σ : Hp) (g : Nat → Nat) : Prop := ∃ Mq Ml, Ls σ g Mq Ml
variable {g : Nat → Nat} {σ : Hp} {Mq Ml : List Nat}
theorem Lk_KlL (h : Lk σ g Mq Ml) : Kl g Ml := ⟨pw_nodup (t := fun a => g (107 + a)) h.2.2.2.1.2.2, h.2.2.2.2⟩
theorem Lk_KlQ (h : Lk σ g Mq Ml) : Kl g Mq := ⟨pw_nodup (t := fun a => g (117 + a)) h.2.2.2.1.2.1, fun k => (h.2.2.2.1.1 k).trans (h.2.2.2.2 k)⟩
theorem Od_congr {g' : Nat → Nat} (h : Od g Mq Ml) (h10 : ∀ k ∈ Ml, k < 10) (e : ∀ k, k < 10 → g' (107 + k) = g (107 + k) ∧ g' (117 + k) = g (117 + k)) : Od g' Mq Ml := by
  refine ⟨h.1, ?_, ?_⟩
  · refine List.Pairwise.imp_of_mem ?_ h.2.1
    intro a b ha hb hab
    rw [(e a (h10 a ((h.1 a).mp ha))).2, (e b (h10 b ((h.1 b).mp hb))).2]
    exact hab
  · refine List.Pairwise.imp_of_mem ?_ h.2.2
    intro a b ha hb hab
    rw [(e a (h10 a ha)).1, (e b (h10 b hb)).1]
    exact hab
theorem Lk_congr {σ' : Hp} {g' : Nat → Nat} (h : Lk σ g Mq Ml) (e3 : σ' 3 = σ 3) (e4 : σ' 4 = σ 4) (e5 : σ' 5 = σ 5) (e : ∀ j, 97 ≤ j → j < 127 → g' j = g j) : Lk σ' g' Mq Ml := by
  obtain ⟨h1, h2, h3, h4, h5⟩ := h
  refine ⟨by rw [e3]; exact h1, by rw [e4]; exact h2, fun k hk hg => ?_, Od_congr h4 h2.2.1 (fun k hk => ⟨e _ (by omega) (by omega), e _ (by omega) (by omega)⟩), fun k => ?_⟩
  · rw [e _ (by omega) (by omega)] at hg ⊢
    rw [e5]
    exact h3 k hk hg
  · rw [h5 k]
    constructor
    · intro q
      exact ⟨q.1, by rw [e _ (by omega) (by omega)]; exact q.2⟩
    · intro q
      exact ⟨q.1, by rw [← e (97 + k) (by omega) (by omega)]; exact q.2⟩
theorem Ls_congr {g' : Nat → Nat} (h : Ls σ g Mq Ml) (e : ∀ j, j < 127 → j ≠ 16 → g' j = g j) : Ls σ g' Mq Ml := by
  obtain ⟨h1, h2, h3⟩ := h
  refine ⟨fun j hj => by rw [e j (by omega) (by omega)]; exact h1 j hj, fun j hj => by rw [e _ (by omega) (by omega), e _ (by omega) (by omega)]; exact h2 j hj, Lk_congr h3 rfl rfl rfl (fun j a b => e j b (by omega))⟩
theorem Ls_u (h : Ls σ g Mq Ml) {i : Nat} (hi : i < 16) (x : Nat) : Ls (lm_u σ 0 i (nI x)) (un g i x) Mq Ml := by
  obtain ⟨h1, h2, h3⟩ := h
  refine ⟨fun j hj => ?_, fun j hj => ?_, Lk_congr h3 (lu_c _ _ _ (by omega)) (lu_c _ _ _ (by omega)) (lu_c _ _ _ (by omega)) (fun j a b => un_ne _ _ (by omega))⟩
  · by_cases q : j = i
    · rw [q, lu_same, un_same]
    · rw [lu_ne _ _ q, un_ne _ _ q]
      exact h1 j hj
  · rw [lu_c _ _ _ (by omega), lu_c _ _ _ (by omega), un_ne _ _ (by omega), un_ne _ _ (by omega)]
    exact h2 j hj
theorem l_firstS (h : Ls σ g Mq Ml) (hK : Kc g) {sp : Nat} {spi : Int32} (hsp : (sp < 10 ∧ spi = nI sp) ∨ (10 ≤ sp ∧ spi = -1)) : F_L_first (lw_f4 (σ 0) (σ 3) (σ 4) (σ 5)) spi = some (nk (-1) (fir g sp)) := by
  obtain ⟨h1, h2, k1, k2, k3, k4, k5⟩ := h
  rw [l_first (h1 1 (by omega)) hK.1 k1 k2 k4 (fun k hk => ⟨k3 k ((k5 k).mp hk).1 ((k5 k).mp hk).2, (hK.2 k ((k5 k).mp hk).1).1⟩) hsp, rb_fir k4 k5]
/-- two keys' rows without a key -/
theorem l_out2 (h3 : lr_R (σ 3) Mq) (h4 : lr_R (σ 4) Ml) {k : Nat} (hk : k < 10) : ∃ τ τ' : Hp, F_L_out (lw_f1 (σ 3)) (nI k) = some τ ∧ F_L_out (lw_f1 (lm_ua σ 3 (τ 0) 4)) (nI k) = some τ' ∧ lr_R (τ 0) (wo Mq k) ∧ lr_R (τ' 0) (wo Ml k) := by
  obtain ⟨τ, a1, a2⟩ := l_out h3 hk
  obtain ⟨τ', b1, b2⟩ := l_out h4 hk
  exact ⟨τ, τ', a1, by rw [ua_c _ _ (by omega)]; exact b1, a2, b2⟩
theorem mem_wo {M : List Nat} {k j : Nat} : j ∈ wo M k ↔ j ∈ M ∧ j ≠ k := by
  unfold wo
  rw [List.mem_filter, decide_eq_true_eq]
theorem Ls_wo (h : Ls σ g Mq Ml) {k : Nat} (hk : k < 10) {f3 f4 : Nat → Int32} (r3 : lr_R f3 (wo Mq k)) (r4 : lr_R f4 (wo Ml k)) : Ls (lm_ua (lm_ua σ 3 f3) 4 f4) (un g (97 + k) 0) (wo Mq k) (wo Ml k) := by
  obtain ⟨h1, h2, k1, k2, k3, k4, k5⟩ := h
  have s0 : ∀ c, c ≠ 3 → c ≠ 4 → lm_ua (lm_ua σ 3 f3) 4 f4 c = σ c := fun c a b => by rw [ua_c _ _ b, ua_c _ _ a]
  refine ⟨fun j hj => ?_, fun j hj => ?_, by rw [ua_c _ _ (by omega), ua_same]; exact r3, by rw [ua_same]; exact r4, fun j hj hg => ?_, ⟨fun j => ?_, ?_, ?_⟩, fun j => ?_⟩
  · rw [s0 0 (by omega) (by omega), un_ne _ _ (by omega)]
    exact h1 j hj
  · rw [s0 1 (by omega) (by omega), s0 2 (by omega) (by omega), un_ne _ _ (by omega), un_ne _ _ (by omega)]
    exact h2 j hj
  · by_cases q : j = k
    · rw [q, un_same] at hg
      exact absurd hg (Nat.lt_irrefl 0)
    · rw [un_ne _ _ (by omega)] at hg ⊢
      rw [s0 5 (by omega) (by omega)]
      exact k3 j hj hg
  · rw [mem_wo, mem_wo, k4.1 j]
  · refine List.Pairwise.imp (fun {a b} hab => ?_) (List.Pairwise.filter _ k4.2.1)
    rw [un_ne _ _ (by omega), un_ne _ _ (by omega)]
    exact hab
  · refine List.Pairwise.imp_of_mem ?_ (List.Pairwise.filter _ k4.2.2)
    intro a b ha hb hab
    rw [un_ne _ _ (by omega), un_ne _ _ (by omega)]
    exact hab
  · rw [mem_wo, k5 j]
    by_cases q : j = k
    · rw [q, un_same]
      constructor
      · intro z
        exact absurd rfl z.2
      · intro z
        exact absurd z.2 (Nat.lt_irrefl 0)
    · rw [un_ne _ _ (by omega)]
      constructor
      · intro z
        exact z.1
      · intro z
        exact ⟨z, q⟩
theorem l_room_L {sp : Nat} {spi : Int32} (hsp : (sp < 10 ∧ spi = nI sp) ∨ (10 ≤ sp ∧ spi = -1)) : ∀ d n (g : Nat → Nat) (σ : Hp) x2 (Mq Ml : List Nat), Ls σ g Mq Ml → Kc g → Rin g → g 0 ≤ 60 → kno g ≤ d → d < n → ∃ σ' Mq' Ml', F_L_room_L15 n σ spi (nI x2) (nk (-1) (fir g sp)) = some (nI (mrD sp d g x2).2, σ') ∧ Ls σ' (un (mrD sp d g x2).1 12 ((mrD sp d g x2).1 12 + (mrD sp d g x2).2)) Mq' Ml' := by
  intro d
  induction d with
  | zero =>
    intro n g σ x2 Mq Ml hL hK hR h0 hk hn
    cases n with
    | zero => omega
    | succ n =>
      have hf : fir g sp = 10 := by
        obtain ⟨f1, f2, f3⟩ := fir_spec g sp
        rcases Nat.lt_or_ge (fir g sp) 10 with q | q
        · exact absurd (f2 q).2 (kD_none 10 0 (by unfold kno at hk; omega) _ (by omega) (by omega))
        · omega
      rw [F_L_room_L15, hf, mrD]
      have n0 : nk (-1) 10 < 0 := by decide
      rw [lm_br, if_pos n0, lm_lt_eq, hL.1 12 (by omega), ev_add]
      exact ⟨_, Mq, Ml, rfl, Ls_u hL (by omega) _⟩
  | succ d ih =>
    intro n g σ x2 Mq Ml hL hK hR h0 hk hn
    cases n with
    | zero => omega
    | succ n =>
      rw [F_L_room_L15, mrD]
      obtain ⟨f1, f2, f3⟩ := fir_spec g sp
      by_cases hf : fir g sp < 10
      · have n0 : ¬ nk (-1) (fir g sp) < 0 := by rw [nk, if_pos hf]; exact nI_pos (by omega)
        have hw : wei g ≤ 220 := wD_le hR.1 10 0
        rw [lm_br, if_neg n0, l_weights hL.1 hL.2.1 hR hL.2.2.1 (Lk_KlQ hL.2.2), lm_bd_some, hL.1 0 (by omega), lm_br]
        by_cases hb : g 0 < wei g
        · obtain ⟨f4, f5⟩ := f2 hf
          rw [if_neg (nI_ge hb (by omega)), if_pos ⟨hf, hb⟩, nk_lt hf]
          obtain ⟨τ, τ', o1, o2, o3, o4⟩ := l_out2 hL.2.2.1 hL.2.2.2.1 hf
          rw [o1, lm_bd_some, lm_lt_eq, o2, lm_bd_some, lm_lt_eq, nI_1]
          have hL2 := Ls_wo hL hf o3 o4
          have hT : Teq g (un g (97 + fir g sp) 0) := Teq_un 0 hR.1 (by omega)
          have hK2 := Kc_lose hK hf
          rw [l_firstS hL2 hK2 hsp, lm_bd_some]
          exact ih n (un g (97 + fir g sp) 0) _ (x2 + 1) _ _ hL2 hK2 (hT.rin hR) (by rw [un_ne _ _ (by omega)]; exact h0) (by
            have := kD_lose f5 10 0 (by omega) (by omega)
            unfold kno at hk ⊢
            omega) (by omega)
        · rw [if_pos (nI_le (by omega) (by omega)), if_neg (fun q => hb q.2), lm_lt_eq, hL.1 12 (by omega), ev_add]
          exact ⟨_, Mq, Ml, rfl, Ls_u hL (by omega) _⟩
      · have n0 : nk (-1) (fir g sp) < 0 := by rw [nk, if_neg hf]; decide
        rw [lm_br, if_pos n0, if_neg (fun q => hf q.1), lm_lt_eq, hL.1 12 (by omega), ev_add]
        exact ⟨_, Mq, Ml, rfl, Ls_u hL (by omega) _⟩
theorem l_room {sp : Nat} {spi : Int32} (hsp : (sp < 10 ∧ spi = nI sp) ∨ (10 ≤ sp ∧ spi = -1)) (hL : Ls σ g Mq Ml) (hK : Kc g) (hR : Rin g) (h0 : g 0 ≤ 60) : ∃ σ' Mq' Ml', F_L_room σ spi = some (nI (mr g sp).2, σ') ∧ Ls σ' (mr g sp).1 Mq' Ml' := by
  unfold F_L_room
  rw [l_firstS hL hK hsp, lm_bd_some]
  exact l_room_L hsp 10 1000 g σ 0 Mq Ml hL hK hR h0 (kno_le g) (by omega)
end LS1
