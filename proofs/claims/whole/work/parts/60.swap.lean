/-! two rows change places -/
section SW1
variable {g : Nat → Nat} {μ : Hp}
def sw (g : Nat → Nat) (i j : Nat) : Nat → Nat := un (un (un (un g (57 + 2 * i + 0) (g (57 + 2 * j + 0))) (57 + 2 * j + 0) (g (57 + 2 * i + 0))) (57 + 2 * i + 1) (g (57 + 2 * j + 1))) (57 + 2 * j + 1) (g (57 + 2 * i + 1))
theorem o_swap_1 {i j x n : Nat} (hi : i < 20) (hj : j < 20) (hx : x ≤ 1) : F_X7_swaps_L2 (n + 1) μ (nI i) (nI j) (nI x) = F_X7_swaps_L2 n (lm_u (lm_u μ 1 (57 + 2 * i + x) (μ 1 (57 + 2 * j + x))) 1 (57 + 2 * j + x) (μ 1 (57 + 2 * i + x))) (nI i) (nI j) (nI (x + 1)) := by
  rw [F_X7_swaps_L2, lm_br, if_neg (show ¬ (2 : Int32) ≤ nI x from nI_ge (a := x) (b := 2) (by omega) (by omega)), ev_k57, ev_k2, ev_mul, ev_mul, ev_add, ev_add, ev_add, ev_add, ev_gi (by omega) (by omega), lm_lt_eq, ev_gi (by omega) (by omega), ev_gi (by omega) (by omega), lm_lt_eq, ev_gi (by omega) (by omega), lm_lt_eq, ev_cl (by omega), ev_cl (by omega), nI_1]
theorem o_swap {i j : Nat} (hM : Mo μ g) (hi : i < 20) (hj : j < 20) : ∃ μ', F_X7_swaps μ (nI i) (nI j) = some μ' ∧ Mo μ' (sw g i j) ∧ Fr μ μ' := by
  unfold F_X7_swaps
  rw [show (1000 : Nat) = 997 + 1 + 1 + 1 from rfl, show (0 : Int32) = nI 0 from rfl, o_swap_1 hi hj (by omega), o_swap_1 hi hj (by omega), F_X7_swaps_L2, lm_br, if_pos (by decide)]
  refine ⟨_, rfl, ?_, (((Fr.rf.u _ _).u _ _).u _ _).u _ _⟩
  rw [lu_ne _ _ (by omega), lu_ne _ _ (by omega), lu_ne _ _ (by omega), lu_ne _ _ (by omega), hM _ (by omega), hM _ (by omega), hM _ (by omega), hM _ (by omega)]
  exact Mo_u (Mo_u (Mo_u (Mo_u hM _ _) _ _) _ _) _ _
theorem c_swap {τ : Hp} {i j : Nat} (hi : i < 20) (hj : j < 20) : F_X5_swap τ (nI i) (nI j) = some (lm_u (lm_u (lm_u (lm_u τ 1 i (τ 1 j)) 2 i (τ 2 j)) 1 j (τ 1 i)) 2 j (τ 2 i)) := by
  unfold F_X5_swap
  rw [c_key hi, lm_bd_some, c_value hi, lm_bd_some, c_key hj, lm_bd_some, c_value hj, lm_bd_some, c_put hi, lm_bd_some, c_put hj, lm_bd_some]
end SW1
