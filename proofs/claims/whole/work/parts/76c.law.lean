section LW3
variable {p : Program} {l : Launch} {e : Env} {s : State} {m : MethodId} {below : List Frame} {meth : Method} {c : Code} {D : va_G} {z zo : ClassId} {b L i : Nat} {xs : Nat → Int32} {d0 : Drawn} {Q : State → Prop} {mm am : Nat → Nat} {aa : Nat → Nat → Nat} {h h' : Nat → Hp} {μ μ' : Hp} {r : Int32}
set_option maxRecDepth 100000 in
set_option maxHeartbeats 4000000 in
theorem law_total (C : law_Cx p s m b c D z zo d0) (hA : lm_AZ (fun q : Nat => s.heap.size ≤ q) (s.setDrawn d0)) (hX : va_X b L xs s s.heap) (hbl : b < s.heap.size) (hL : L ≤ 2048) (hi : i + 4 ≤ L) (F6 : F_X6_total h (xs (i + 1)) = some r) (F7 : F_X7_total μ (xs (i + 1)) = some r) (K : law_St p l e s m b below meth c D Q d0 (mdW z am μ ++ lmW z zo mm aa h) 835 (law_lv mm am b i) []) : law_St p l e s m b below meth c D Q d0 (mdW z am μ ++ lmW z zo mm aa h) 663 (law_lv mm am b i) [] := by
  refine lm_aload_n C dL_law_663 rfl 2 rfl rfl ?_
  refine lm_aload_n C dL_law_664 rfl 3 rfl rfl ?_
  refine lm_iload_n C dL_law_665 rfl 0 rfl rfl ?_
  refine lm_iconst C (v := (1 : Int32)) dL_law_666 (by decide) rfl ?_
  refine lm_iadd C (v := nI (i + 1)) dL_law_667 (nI_add i 1) rfl ?_
  refine lm_sld C (v := xs (i + 1)) hX hbl (Nat.not_le.mpr hbl) (vp_in_nI (by omega) (by omega)) (by rw [nI_clamp (by omega)]) dL_law_668 rfl ?_
  refine lm_callVR C (n := 1) (ci := 6) (m_X6_total D z zo l mm aa h ((xs (i + 1))) r F6) gL_law_X6_total rfl (by decide +kernel) ⟨Nat.le_of_ble_eq_true rfl, Nat.le_of_ble_eq_true rfl⟩ ⟨Nat.le_of_ble_eq_true rfl, Nat.le_of_ble_eq_true rfl⟩ 8 rfl rfl (fun q hq => List.mem_append_right _ hq) rfl rfl (Nat.le_of_ble_eq_true rfl) dL_law_669 (st' := [.int r]) rfl rfl ?_
  refine lm_aload_n C dL_law_672 rfl 1 rfl rfl ?_
  refine lm_aload_n C dL_law_673 rfl 3 rfl rfl ?_
  refine lm_iload_n C dL_law_674 rfl 0 rfl rfl ?_
  refine lm_iconst C (v := (1 : Int32)) dL_law_675 (by decide) rfl ?_
  refine lm_iadd C (v := nI (i + 1)) dL_law_676 (nI_add i 1) rfl ?_
  refine lm_sld C (v := xs (i + 1)) hX hbl (Nat.not_le.mpr hbl) (vp_in_nI (by omega) (by omega)) (by rw [nI_clamp (by omega)]) dL_law_677 rfl ?_
  refine lm_callVR C (n := 1) (ci := 7) (m_X7_total D z zo l am μ ((xs (i + 1))) r F7) gL_law_X7_total rfl (by decide +kernel) ⟨Nat.le_of_ble_eq_true rfl, Nat.le_of_ble_eq_true rfl⟩ ⟨Nat.le_of_ble_eq_true rfl, Nat.le_of_ble_eq_true rfl⟩ 0 rfl rfl (fun q hq => List.mem_append_left _ hq) rfl rfl (Nat.le_of_ble_eq_true rfl) dL_law_678 (st' := [.int r, .int r]) rfl rfl ?_
  refine lm_icmp_eq C (tgt := 835) dL_law_681 (by decide) rfl (fun _ => ?_) (fun c9 => absurd rfl c9)
  exact K
set_option maxRecDepth 100000 in
set_option maxHeartbeats 4000000 in
theorem law_ifBound (C : law_Cx p s m b c D z zo d0) (hA : lm_AZ (fun q : Nat => s.heap.size ≤ q) (s.setDrawn d0)) (hX : va_X b L xs s s.heap) (hbl : b < s.heap.size) (hL : L ≤ 2048) (hi : i + 4 ≤ L) (F6 : F_X6_ifBound h (xs (i + 1)) (xs (i + 2)) = some (r, h')) (F7 : F_X7_ifBound μ (xs (i + 1)) (xs (i + 2)) = some (r, μ')) (K : law_St p l e s m b below meth c D Q d0 (mdW z am μ' ++ lmW z zo mm aa h') 835 (law_lv mm am b i) []) : law_St p l e s m b below meth c D Q d0 (mdW z am μ ++ lmW z zo mm aa h) 727 (law_lv mm am b i) [] := by
  refine lm_aload_n C dL_law_727 rfl 2 rfl rfl ?_
  refine lm_aload_n C dL_law_728 rfl 3 rfl rfl ?_
  refine lm_iload_n C dL_law_729 rfl 0 rfl rfl ?_
  refine lm_iconst C (v := (1 : Int32)) dL_law_730 (by decide) rfl ?_
  refine lm_iadd C (v := nI (i + 1)) dL_law_731 (nI_add i 1) rfl ?_
  refine lm_sld C (v := xs (i + 1)) hX hbl (Nat.not_le.mpr hbl) (vp_in_nI (by omega) (by omega)) (by rw [nI_clamp (by omega)]) dL_law_732 rfl ?_
  refine lm_aload_n C dL_law_733 rfl 3 rfl rfl ?_
  refine lm_iload_n C dL_law_734 rfl 0 rfl rfl ?_
  refine lm_iconst C (v := (2 : Int32)) dL_law_735 (by decide) rfl ?_
  refine lm_iadd C (v := nI (i + 2)) dL_law_736 (nI_add i 2) rfl ?_
  refine lm_sld C (v := xs (i + 2)) hX hbl (Nat.not_le.mpr hbl) (vp_in_nI (by omega) (by omega)) (by rw [nI_clamp (by omega)]) dL_law_737 rfl ?_
  refine lm_callV C (n := 2) (ci := 6) (w' := mdW z am μ ++ lmW z zo mm aa h') hA (m_X6_ifBound D z zo l mm aa h ((xs (i + 1))) ((xs (i + 2))) r h' F6) gL_law_X6_ifBound rfl (by decide +kernel) ⟨Nat.le_of_ble_eq_true rfl, Nat.le_of_ble_eq_true rfl⟩ ⟨Nat.le_of_ble_eq_true rfl, Nat.le_of_ble_eq_true rfl⟩ 8 rfl rfl List.perm_append_comm List.perm_append_comm rfl rfl (Nat.le_of_ble_eq_true rfl) dL_law_738 (st' := [.int r]) rfl rfl ?_
  refine lm_aload_n C dL_law_741 rfl 1 rfl rfl ?_
  refine lm_aload_n C dL_law_742 rfl 3 rfl rfl ?_
  refine lm_iload_n C dL_law_743 rfl 0 rfl rfl ?_
  refine lm_iconst C (v := (1 : Int32)) dL_law_744 (by decide) rfl ?_
  refine lm_iadd C (v := nI (i + 1)) dL_law_745 (nI_add i 1) rfl ?_
  refine lm_sld C (v := xs (i + 1)) hX hbl (Nat.not_le.mpr hbl) (vp_in_nI (by omega) (by omega)) (by rw [nI_clamp (by omega)]) dL_law_746 rfl ?_
  refine lm_aload_n C dL_law_747 rfl 3 rfl rfl ?_
  refine lm_iload_n C dL_law_748 rfl 0 rfl rfl ?_
  refine lm_iconst C (v := (2 : Int32)) dL_law_749 (by decide) rfl ?_
  refine lm_iadd C (v := nI (i + 2)) dL_law_750 (nI_add i 2) rfl ?_
  refine lm_sld C (v := xs (i + 2)) hX hbl (Nat.not_le.mpr hbl) (vp_in_nI (by omega) (by omega)) (by rw [nI_clamp (by omega)]) dL_law_751 rfl ?_
  refine lm_callV C (n := 2) (ci := 7) (w' := mdW z am μ' ++ lmW z zo mm aa h') hA (m_X7_ifBound D z zo l am μ ((xs (i + 1))) ((xs (i + 2))) r μ' F7) gL_law_X7_ifBound rfl (by decide +kernel) ⟨Nat.le_of_ble_eq_true rfl, Nat.le_of_ble_eq_true rfl⟩ ⟨Nat.le_of_ble_eq_true rfl, Nat.le_of_ble_eq_true rfl⟩ 0 rfl rfl (List.Perm.refl _) (List.Perm.refl _) rfl rfl (Nat.le_of_ble_eq_true rfl) dL_law_752 (st' := [.int r, .int r]) rfl rfl ?_
  refine lm_icmp_eq C (tgt := 835) dL_law_755 (by decide) rfl (fun _ => ?_) (fun c9 => absurd rfl c9)
  exact K
set_option maxRecDepth 100000 in
set_option maxHeartbeats 4000000 in
theorem law_ifOrdered (C : law_Cx p s m b c D z zo d0) (hA : lm_AZ (fun q : Nat => s.heap.size ≤ q) (s.setDrawn d0)) (hX : va_X b L xs s s.heap) (hbl : b < s.heap.size) (hL : L ≤ 2048) (hi : i + 4 ≤ L) (F6 : F_X6_ifOrdered h (xs (i + 1)) = some (r, h')) (F7 : F_X7_ifOrdered μ (xs (i + 1)) = some (r, μ')) (K : law_St p l e s m b below meth c D Q d0 (mdW z am μ' ++ lmW z zo mm aa h') 835 (law_lv mm am b i) []) : law_St p l e s m b below meth c D Q d0 (mdW z am μ ++ lmW z zo mm aa h) 760 (law_lv mm am b i) [] := by
  refine lm_aload_n C dL_law_760 rfl 2 rfl rfl ?_
  refine lm_aload_n C dL_law_761 rfl 3 rfl rfl ?_
  refine lm_iload_n C dL_law_762 rfl 0 rfl rfl ?_
  refine lm_iconst C (v := (1 : Int32)) dL_law_763 (by decide) rfl ?_
  refine lm_iadd C (v := nI (i + 1)) dL_law_764 (nI_add i 1) rfl ?_
  refine lm_sld C (v := xs (i + 1)) hX hbl (Nat.not_le.mpr hbl) (vp_in_nI (by omega) (by omega)) (by rw [nI_clamp (by omega)]) dL_law_765 rfl ?_
  refine lm_callV C (n := 1) (ci := 6) (w' := mdW z am μ ++ lmW z zo mm aa h') hA (m_X6_ifOrdered D z zo l mm aa h ((xs (i + 1))) r h' F6) gL_law_X6_ifOrdered rfl (by decide +kernel) ⟨Nat.le_of_ble_eq_true rfl, Nat.le_of_ble_eq_true rfl⟩ ⟨Nat.le_of_ble_eq_true rfl, Nat.le_of_ble_eq_true rfl⟩ 8 rfl rfl List.perm_append_comm List.perm_append_comm rfl rfl (Nat.le_of_ble_eq_true rfl) dL_law_766 (st' := [.int r]) rfl rfl ?_
  refine lm_aload_n C dL_law_769 rfl 1 rfl rfl ?_
  refine lm_aload_n C dL_law_770 rfl 3 rfl rfl ?_
  refine lm_iload_n C dL_law_771 rfl 0 rfl rfl ?_
  refine lm_iconst C (v := (1 : Int32)) dL_law_772 (by decide) rfl ?_
  refine lm_iadd C (v := nI (i + 1)) dL_law_773 (nI_add i 1) rfl ?_
  refine lm_sld C (v := xs (i + 1)) hX hbl (Nat.not_le.mpr hbl) (vp_in_nI (by omega) (by omega)) (by rw [nI_clamp (by omega)]) dL_law_774 rfl ?_
  refine lm_callV C (n := 1) (ci := 7) (w' := mdW z am μ' ++ lmW z zo mm aa h') hA (m_X7_ifOrdered D z zo l am μ ((xs (i + 1))) r μ' F7) gL_law_X7_ifOrdered rfl (by decide +kernel) ⟨Nat.le_of_ble_eq_true rfl, Nat.le_of_ble_eq_true rfl⟩ ⟨Nat.le_of_ble_eq_true rfl, Nat.le_of_ble_eq_true rfl⟩ 0 rfl rfl (List.Perm.refl _) (List.Perm.refl _) rfl rfl (Nat.le_of_ble_eq_true rfl) dL_law_775 (st' := [.int r, .int r]) rfl rfl ?_
  refine lm_icmp_eq C (tgt := 835) dL_law_778 (by decide) rfl (fun _ => ?_) (fun c9 => absurd rfl c9)
  exact K
set_option maxRecDepth 100000 in
set_option maxHeartbeats 4000000 in
theorem law_leastBound (C : law_Cx p s m b c D z zo d0) (hA : lm_AZ (fun q : Nat => s.heap.size ≤ q) (s.setDrawn d0)) (hX : va_X b L xs s s.heap) (hbl : b < s.heap.size) (hL : L ≤ 2048) (hi : i + 4 ≤ L) (F6 : F_X6_leastBound h  = some (r, h')) (F7 : F_X7_leastBound μ  = some (r, μ')) (K : law_St p l e s m b below meth c D Q d0 (mdW z am μ' ++ lmW z zo mm aa h') 835 (law_lv mm am b i) []) : law_St p l e s m b below meth c D Q d0 (mdW z am μ ++ lmW z zo mm aa h) 783 (law_lv mm am b i) [] := by
  refine lm_aload_n C dL_law_783 rfl 2 rfl rfl ?_
  refine lm_callV C (n := 0) (ci := 6) (w' := mdW z am μ ++ lmW z zo mm aa h') hA (m_X6_leastBound D z zo l mm aa h  r h' F6) gL_law_X6_leastBound rfl (by decide +kernel) ⟨Nat.le_of_ble_eq_true rfl, Nat.le_of_ble_eq_true rfl⟩ ⟨Nat.le_of_ble_eq_true rfl, Nat.le_of_ble_eq_true rfl⟩ 8 rfl rfl List.perm_append_comm List.perm_append_comm rfl rfl (Nat.le_of_ble_eq_true rfl) dL_law_784 (st' := [.int r]) rfl rfl ?_
  refine lm_aload_n C dL_law_787 rfl 1 rfl rfl ?_
  refine lm_callV C (n := 0) (ci := 7) (w' := mdW z am μ' ++ lmW z zo mm aa h') hA (m_X7_leastBound D z zo l am μ  r μ' F7) gL_law_X7_leastBound rfl (by decide +kernel) ⟨Nat.le_of_ble_eq_true rfl, Nat.le_of_ble_eq_true rfl⟩ ⟨Nat.le_of_ble_eq_true rfl, Nat.le_of_ble_eq_true rfl⟩ 0 rfl rfl (List.Perm.refl _) (List.Perm.refl _) rfl rfl (Nat.le_of_ble_eq_true rfl) dL_law_788 (st' := [.int r, .int r]) rfl rfl ?_
  refine lm_icmp_eq C (tgt := 835) dL_law_791 (by decide) rfl (fun _ => ?_) (fun c9 => absurd rfl c9)
  exact K
set_option maxRecDepth 100000 in
set_option maxHeartbeats 4000000 in
theorem law_undo (C : law_Cx p s m b c D z zo d0) (hA : lm_AZ (fun q : Nat => s.heap.size ≤ q) (s.setDrawn d0)) (hX : va_X b L xs s s.heap) (hbl : b < s.heap.size) (hL : L ≤ 2048) (hi : i + 4 ≤ L) (F6 : F_X6_undo h  = some (r, h')) (F7 : F_X7_undo μ  = some (r, μ')) (K : law_St p l e s m b below meth c D Q d0 (mdW z am μ' ++ lmW z zo mm aa h') 835 (law_lv mm am b i) []) : law_St p l e s m b below meth c D Q d0 (mdW z am μ ++ lmW z zo mm aa h) 796 (law_lv mm am b i) [] := by
  refine lm_aload_n C dL_law_796 rfl 2 rfl rfl ?_
  refine lm_callV C (n := 0) (ci := 6) (w' := mdW z am μ ++ lmW z zo mm aa h') hA (m_X6_undo D z zo l mm aa h  r h' F6) gL_law_X6_undo rfl (by decide +kernel) ⟨Nat.le_of_ble_eq_true rfl, Nat.le_of_ble_eq_true rfl⟩ ⟨Nat.le_of_ble_eq_true rfl, Nat.le_of_ble_eq_true rfl⟩ 8 rfl rfl List.perm_append_comm List.perm_append_comm rfl rfl (Nat.le_of_ble_eq_true rfl) dL_law_797 (st' := [.int r]) rfl rfl ?_
  refine lm_aload_n C dL_law_800 rfl 1 rfl rfl ?_
  refine lm_callV C (n := 0) (ci := 7) (w' := mdW z am μ' ++ lmW z zo mm aa h') hA (m_X7_undo D z zo l am μ  r μ' F7) gL_law_X7_undo rfl (by decide +kernel) ⟨Nat.le_of_ble_eq_true rfl, Nat.le_of_ble_eq_true rfl⟩ ⟨Nat.le_of_ble_eq_true rfl, Nat.le_of_ble_eq_true rfl⟩ 0 rfl rfl (List.Perm.refl _) (List.Perm.refl _) rfl rfl (Nat.le_of_ble_eq_true rfl) dL_law_801 (st' := [.int r, .int r]) rfl rfl ?_
  refine lm_icmp_eq C (tgt := 835) dL_law_804 (by decide) rfl (fun _ => ?_) (fun c9 => absurd rfl c9)
  exact K
set_option maxRecDepth 100000 in
set_option maxHeartbeats 4000000 in
theorem law_save (C : law_Cx p s m b c D z zo d0) (hA : lm_AZ (fun q : Nat => s.heap.size ≤ q) (s.setDrawn d0)) (hX : va_X b L xs s s.heap) (hbl : b < s.heap.size) (hL : L ≤ 2048) (hi : i + 4 ≤ L) (F6 : F_X6_save h  = some (r, h')) (F7 : F_X7_save μ  = some (r, μ')) (K : law_St p l e s m b below meth c D Q d0 (mdW z am μ' ++ lmW z zo mm aa h') 835 (law_lv mm am b i) []) : law_St p l e s m b below meth c D Q d0 (mdW z am μ ++ lmW z zo mm aa h) 809 (law_lv mm am b i) [] := by
  refine lm_aload_n C dL_law_809 rfl 2 rfl rfl ?_
  refine lm_callV C (n := 0) (ci := 6) (w' := mdW z am μ ++ lmW z zo mm aa h') hA (m_X6_save D z zo l mm aa h  r h' F6) gL_law_X6_save rfl (by decide +kernel) ⟨Nat.le_of_ble_eq_true rfl, Nat.le_of_ble_eq_true rfl⟩ ⟨Nat.le_of_ble_eq_true rfl, Nat.le_of_ble_eq_true rfl⟩ 8 rfl rfl List.perm_append_comm List.perm_append_comm rfl rfl (Nat.le_of_ble_eq_true rfl) dL_law_810 (st' := [.int r]) rfl rfl ?_
  refine lm_aload_n C dL_law_813 rfl 1 rfl rfl ?_
  refine lm_callV C (n := 0) (ci := 7) (w' := mdW z am μ' ++ lmW z zo mm aa h') hA (m_X7_save D z zo l am μ  r μ' F7) gL_law_X7_save rfl (by decide +kernel) ⟨Nat.le_of_ble_eq_true rfl, Nat.le_of_ble_eq_true rfl⟩ ⟨Nat.le_of_ble_eq_true rfl, Nat.le_of_ble_eq_true rfl⟩ 0 rfl rfl (List.Perm.refl _) (List.Perm.refl _) rfl rfl (Nat.le_of_ble_eq_true rfl) dL_law_814 (st' := [.int r, .int r]) rfl rfl ?_
  refine lm_icmp_eq C (tgt := 835) dL_law_817 (by decide) rfl (fun _ => ?_) (fun c9 => absurd rfl c9)
  exact K
set_option maxRecDepth 100000 in
set_option maxHeartbeats 4000000 in
theorem law_restore (C : law_Cx p s m b c D z zo d0) (hA : lm_AZ (fun q : Nat => s.heap.size ≤ q) (s.setDrawn d0)) (hX : va_X b L xs s s.heap) (hbl : b < s.heap.size) (hL : L ≤ 2048) (hi : i + 4 ≤ L) (F6 : F_X6_restore h  = some (r, h')) (F7 : F_X7_restore μ  = some (r, μ')) (K : law_St p l e s m b below meth c D Q d0 (mdW z am μ' ++ lmW z zo mm aa h') 835 (law_lv mm am b i) []) : law_St p l e s m b below meth c D Q d0 (mdW z am μ ++ lmW z zo mm aa h) 822 (law_lv mm am b i) [] := by
  refine lm_aload_n C dL_law_822 rfl 2 rfl rfl ?_
  refine lm_callV C (n := 0) (ci := 6) (w' := mdW z am μ ++ lmW z zo mm aa h') hA (m_X6_restore D z zo l mm aa h  r h' F6) gL_law_X6_restore rfl (by decide +kernel) ⟨Nat.le_of_ble_eq_true rfl, Nat.le_of_ble_eq_true rfl⟩ ⟨Nat.le_of_ble_eq_true rfl, Nat.le_of_ble_eq_true rfl⟩ 8 rfl rfl List.perm_append_comm List.perm_append_comm rfl rfl (Nat.le_of_ble_eq_true rfl) dL_law_823 (st' := [.int r]) rfl rfl ?_
  refine lm_aload_n C dL_law_826 rfl 1 rfl rfl ?_
  refine lm_callV C (n := 0) (ci := 7) (w' := mdW z am μ' ++ lmW z zo mm aa h') hA (m_X7_restore D z zo l am μ  r μ' F7) gL_law_X7_restore rfl (by decide +kernel) ⟨Nat.le_of_ble_eq_true rfl, Nat.le_of_ble_eq_true rfl⟩ ⟨Nat.le_of_ble_eq_true rfl, Nat.le_of_ble_eq_true rfl⟩ 0 rfl rfl (List.Perm.refl _) (List.Perm.refl _) rfl rfl (Nat.le_of_ble_eq_true rfl) dL_law_827 (st' := [.int r, .int r]) rfl rfl ?_
  refine lm_icmp_eq C (tgt := 835) dL_law_830 (by decide) rfl (fun _ => ?_) (fun c9 => absurd rfl c9)
  exact K
end LW3
