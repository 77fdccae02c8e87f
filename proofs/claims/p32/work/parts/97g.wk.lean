/-! (by wip/p32/wk2.py) -/
abbrev rn_L_below : Room := { frames := 1, cells := 0, slots := 0, locals := 60 }
set_option maxHeartbeats 4000000 in
set_option maxRecDepth 100000 in
theorem c_L_below {l : Launch} {D : va_G} {Y : CYs} {xv : Int32} {k1 : Nat} (hk : 0 < k1) (hk2 : k1 < 2 ^ 31) (sz : Nat) : Met l yL_below (Cond.code yL_below cL_below 2 (some .int) :: gW) rn_L_below (PcE XN ([]) Y D sz [.int xv, .int (nI k1)]) (GI (S := Unit) (fun r _ => ∃ j, j < k1 ∧ r = nI j) (fun _ => []) Y D (va_A ([]) sz)) 0 0 (va_A ([]) sz) := by
  refine Met_ofE (Qc := GI (S := Unit) (fun r _ => ∃ j, j < k1 ∧ r = nI j) (fun _ => []) Y D) (by decide) (Nat.le_of_ble_eq_true rfl) (fun p e s m args below meth c A hF hX hin hP hD hS ls hl => ?_) sz
  obtain ⟨hC, hb, hml, hr, hlk, hSW, hA⟩ := id hF
  have hx := hC.1
  have hl : lv_has ls 2 [(0, .int xv), (1, .int (nI k1))] := hl
  refine lv_iload_n hx hb dL_below_0 rfl (lv_at hl 0 rfl) ?_
  refine lv_ldc (v := 2147483647) hx hb hC.2.2.1 (hC.2.1 (Cond.constant RL 7 2147483647) (gw_t (tb3 (List.mem_of_getElem? (i := 177) rfl)) rfl)) dL_below_1 ?_
  refine lv_iand hx hb dL_below_3 ?_
  obtain ⟨j, hj, ej⟩ := pk_andE xv (m := 2147483647) 31 (by decide)
  refine lv_topi (fun x1 ex1 => ?_)
  have ex1 : x1 = nI j := ex1.trans (ej)
  subst ex1
  refine lv_iload_n hx hb dL_below_4 rfl (lv_at hl 1 rfl) ?_
  refine lv_irem hx hb dL_below_5 (nI_ne0 hk hk2) ?_
  refine lv_topi (fun x2 ex2 => ?_)
  have ex2 : x2 = nI (j % k1) := ex2.trans (pk_rem hj hk hk2)
  subst ex2
  exact g_iret (()) hF rfl (⟨j % k1, Nat.mod_lt _ hk, rfl⟩) hP hD hS dL_below_6 (Nat.le_of_ble_eq_true rfl) (Nat.le_of_ble_eq_true rfl)

abbrev rn_L_cell : Room := { frames := 1, cells := 0, slots := 0, locals := 60 }
set_option maxHeartbeats 4000000 in
set_option maxRecDepth 100000 in
theorem c_L_cell {l : Launch} {D : va_G} {Y : CYs} {b L kx : Nat} {xs : Nat → Int32} (hL : L ≤ 260) (hk : kx < 2 ^ 30) (sz : Nat) : Met l yL_cell (Cond.code yL_cell cL_cell 2 (some .int) :: gW) rn_L_cell (PcE (SCR b L xs) ([]) Y D sz [.ref b, .int (nI kx)]) (GI (S := Unit) (fun _ _ => True) (fun _ => []) Y D (va_A ([]) sz)) 0 0 (va_A ([]) sz) := by
  refine Met_ofE (Qc := GI (S := Unit) (fun _ _ => True) (fun _ => []) Y D) (by decide) (Nat.le_of_ble_eq_true rfl) (fun p e s m args below meth c A hF hX hin hP hD hS ls hl => ?_) sz
  obtain ⟨hC, hb, hml, hr, hlk, hSW, hA⟩ := id hF
  have hx := hC.1
  have hl : lv_has ls 2 [(0, .ref b), (1, .int (nI kx))] := hl
  refine lv_iload_n hx hb dL_cell_0 rfl (lv_at hl 1 rfl) ?_
  refine lv_aload_n hx hb dL_cell_1 rfl (lv_at hl 0 rfl) ?_
  refine va_slen hx hb hX.1 hX.2.1 hX.2.2 hS dL_cell_2 ?_
  refine lv_topi (fun x1 ex1 => ?_)
  have ex1 : x1 = nI L := ex1.trans (rfl)
  subst ex1
  refine lv_icmp_ge (tgt := 12) hx hb dL_cell_3 (by decide) (fun c2 => ?_) (fun c2 => ?_)
  · refine lv_ldc (v := 790386105) hx hb hC.2.2.1 (hC.2.1 (Cond.constant RL 8 790386105) (gw_t (tb3 (List.mem_of_getElem? (i := 173) rfl)) rfl)) dL_cell_12 ?_
    refine lv_iload_n hx hb dL_cell_14 rfl (lv_at hl 1 rfl) ?_
    refine lv_iconst (v := 3) hx hb dL_cell_15 (by decide) ?_
    refine lv_iadd hx hb dL_cell_16 ?_
    refine lv_imul hx hb dL_cell_17 ?_
    refine lv_topi (fun xr exr => ?_)
    exact g_iret (()) hF rfl trivial hP hD hS dL_cell_18 (Nat.le_of_ble_eq_true rfl) (Nat.le_of_ble_eq_true rfl)
  · have hlt : kx < L := Nat.lt_of_not_le (fun h => c2 (nI_le h (by omega)))
    refine lv_aload_n hx hb dL_cell_6 rfl (lv_at hl 0 rfl) ?_
    refine lv_iload_n hx hb dL_cell_7 rfl (lv_at hl 1 rfl) ?_
    refine va_sld hx hb hX.1 hX.2.1 hX.2.2 hS (vp_in_nI hlt (by omega)) dL_cell_8 ?_
    refine lv_topi (fun xr exr => ?_)
    refine lv_goto (tgt := 18) hx hb dL_cell_9 (by decide) ?_
    exact g_iret (()) hF rfl trivial hP hD hS dL_cell_18 (Nat.le_of_ble_eq_true rfl) (Nat.le_of_ble_eq_true rfl)
