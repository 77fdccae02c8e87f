/-! (by wip/p32/sb.py) -/
abbrev rn_J5_init_d00df : Room := { frames := 1, cells := 1, slots := 16, locals := 60 }
set_option maxHeartbeats 4000000 in
set_option maxRecDepth 100000 in
theorem c_J5_init_d00df {l : Launch} {D : va_G} {Y : CYs} {h : Nat} (sz : Nat) : Met l yJ5_init_d00df (Cond.code yJ5_init_d00df cJ5_init_d00df 2 none :: gW) rn_J5_init_d00df (PcE XN ([(h, .inr (1, [.null, .int 0, .int 0, .int 0]))]) Y D sz [.ref h, .int 16]) (GV (S := Nat) (fun _ => True) (fun u => sbW Y h 0 (u, 16, fun _ => 0)) Y D (va_A ([(h, .inr (1, [.null, .int 0, .int 0, .int 0]))]) sz)) 1 16 (va_A ([(h, .inr (1, [.null, .int 0, .int 0, .int 0]))]) sz) := by
  refine Met_ofE (Qc := GV (S := Nat) (fun _ => True) (fun u => sbW Y h 0 (u, 16, fun _ => 0)) Y D) (by decide) (Nat.le_of_ble_eq_true rfl) (fun p e s m args below meth c A hF hX hin hP hD hS ls hl => ?_) sz
  obtain ⟨hC, hb, hml, hr, hlk, hSW, hA⟩ := id hF
  have hx := hC.1
  have hl : lv_has ls 2 [(0, .ref h), (1, .int 16)] := hl
  refine lv_aload_n hx hb dJ5_init_d00df_0 rfl (lv_at hl 0 rfl) ?_
  refine n_obj hC hb (hl.1.trans hml.symm) (gw_t (tb4 (List.mem_of_getElem? (i := 8) rfl)) rfl) dJ5_init_d00df_1 (Nat.le_of_ble_eq_true rfl) (Nat.le_of_ble_eq_true rfl) ?_
  refine va_gets hx hb hSW.2.1 hS hC.2.2.1 (hC.2.1 (Cond.fieldLink RJ5 18 "java/lang/String" "COMPACT_STRINGS" "Z") (gw_t (tb4 (List.mem_of_getElem? (i := 9) rfl)) rfl)) (fun _ h => h) dJ5_init_d00df_4 ?_
  refine lv_if_eq (tgt := 25) hx hb dJ5_init_d00df_7 (by decide) (fun c1 => False.elim (absurd c1 (by decide))) (fun c1 => ?_)
  refine lv_aload_n hx hb dJ5_init_d00df_10 rfl (lv_at hl 0 rfl) ?_
  refine lv_iload_n hx hb dJ5_init_d00df_11 rfl (lv_at hl 1 rfl) ?_
  refine n_arrB (N' := 16) hC hb hP hD hS hA (by decide) (by decide) (Nat.le_of_ble_eq_true rfl) (Nat.le_of_ble_eq_true rfl) (Nat.le_of_ble_eq_true rfl) dJ5_init_d00df_12 (fun q0 H hP hD hS => ?_)
  have hP : va_P D vwCl ([(h, .inr (1, [.null, .int 0, .int 0, .int 0])), (q0, .inl (Y.2.2.1.1, 16, .inl (fun _ => 0)))]) H := hP
  have hD : va_D A ([(h, .inr (1, [.null, .int 0, .int 0, .int 0])), (q0, .inl (Y.2.2.1.1, 16, .inl (fun _ => 0)))]) := hD
  refine n_put hC hb hP hD hS inGJ4 tyJ4 tyJ4_ok nmJ4 0 rfl rfl 0 (by decide) (gw_t (tb4 (List.mem_of_getElem? (i := 18) rfl)) rfl) rfl rfl rfl rfl rfl (Nat.le_of_ble_eq_true rfl) dJ5_init_d00df_14 (fun H locs hP hD hS => ?_)
  have hP : va_P D vwCl ([(h, .inr (1, [.ref q0, .int 0, .int 0, .int 0])), (q0, .inl (Y.2.2.1.1, 16, .inl (fun _ => 0)))]) H := hP
  have hD : va_D A ([(h, .inr (1, [.ref q0, .int 0, .int 0, .int 0])), (q0, .inl (Y.2.2.1.1, 16, .inl (fun _ => 0)))]) := hD
  refine lv_aload_n hx hb dJ5_init_d00df_17 rfl (lv_at hl 0 rfl) ?_
  refine lv_iconst (v := 0) hx hb dJ5_init_d00df_18 (by decide) ?_
  refine n_put hC hb hP hD hS inGJ4 tyJ4 tyJ4_ok nmJ4 0 rfl rfl 1 (by decide) (gw_t (tb4 (List.mem_of_getElem? (i := 19) rfl)) rfl) rfl rfl rfl rfl rfl (Nat.le_of_ble_eq_true rfl) dJ5_init_d00df_19 (fun H locs hP hD hS => ?_)
  have hP : va_P D vwCl ([(h, .inr (1, [.ref q0, .int 0, .int 0, .int 0])), (q0, .inl (Y.2.2.1.1, 16, .inl (fun _ => 0)))]) H := hP
  have hD : va_D A ([(h, .inr (1, [.ref q0, .int 0, .int 0, .int 0])), (q0, .inl (Y.2.2.1.1, 16, .inl (fun _ => 0)))]) := hD
  refine lv_goto (tgt := 38) hx hb dJ5_init_d00df_22 (by decide) ?_
  exact g_vret q0 hF trivial hP hD hS dJ5_init_d00df_38 (Nat.le_of_ble_eq_true rfl) (Nat.le_of_ble_eq_true rfl)

abbrev rn_J4_init_da8c8 : Room := { frames := 2, cells := 1, slots := 16, locals := 120 }
set_option maxHeartbeats 4000000 in
set_option maxRecDepth 100000 in
theorem c_J4_init_da8c8 {l : Launch} {D : va_G} {Y : CYs} {h : Nat} (sz : Nat) : Met l yJ4_init_da8c8 (Cond.code yJ4_init_da8c8 cJ4_init_da8c8 1 none :: gW) rn_J4_init_da8c8 (PcE XN ([(h, .inr (1, [.null, .int 0, .int 0, .int 0]))]) Y D sz [.ref h]) (GV (S := Nat) (fun _ => True) (fun u => sbW Y h 0 (u, 16, fun _ => 0)) Y D (va_A ([(h, .inr (1, [.null, .int 0, .int 0, .int 0]))]) sz)) 1 16 (va_A ([(h, .inr (1, [.null, .int 0, .int 0, .int 0]))]) sz) := by
  refine Met_ofE (Qc := GV (S := Nat) (fun _ => True) (fun u => sbW Y h 0 (u, 16, fun _ => 0)) Y D) (by decide) (Nat.le_of_ble_eq_true rfl) (fun p e s m args below meth c A hF hX hin hP hD hS ls hl => ?_) sz
  obtain ⟨hC, hb, hml, hr, hlk, hSW, hA⟩ := id hF
  have hx := hC.1
  have hl : lv_has ls 1 [(0, .ref h)] := hl
  refine lv_aload_n hx hb dJ4_init_da8c8_0 rfl (lv_at hl 0 rfl) ?_
  refine lv_bipush (v := 16) hx hb dJ4_init_da8c8_1 (by decide) ?_
  refine g_v (Rs := []) (C0 := [(h, .inr (1, [.null, .int 0, .int 0, .int 0]))]) (As := [.ref h, .int 16]) hF hP hD hS XN_ok trivial (rI (As := [.int 16]) (rest := []) hF hl (c_J5_init_d00df _) (cwI 1 hC.2.1 (gi_law (gw_t (tb4 (List.mem_of_getElem? (i := 7) rfl)) rfl)) rfl rfl rfl (hC.2.1 (Cond.initialized RJ5) (gw_t (tb1 (List.mem_of_getElem? (i := 11) rfl)) rfl)) (hC.2.1 (Cond.methodLink RJ4 1 yJ5_init_d00df) (gw_t (tb4 (List.mem_of_getElem? (i := 5) rfl)) rfl)) (hC.2.1 (Cond.instanceMethod yJ5_init_d00df) (gw_t (tb4 (List.mem_of_getElem? (i := 6) rfl)) rfl)) rfl (by decide +kernel) ⟨(Nat.le_of_ble_eq_true rfl), (Nat.le_of_ble_eq_true rfl)⟩) rfl rfl (Nat.le_of_ble_eq_true rfl) dJ4_init_da8c8_3 ⟨(Nat.le_of_ble_eq_true rfl), (Nat.le_of_ble_eq_true rfl)⟩) (fun q0 H locs hp hP hD hS => ?_)
  have hP : va_P D vwCl ([(h, .inr (1, [.ref q0, .int 0, .int 0, .int (nI 0)])), (q0, .inl (Y.2.2.1.1, 16, .inl (fun _ => 0)))]) H := hP
  have hD : va_D A ([(h, .inr (1, [.ref q0, .int 0, .int 0, .int (nI 0)])), (q0, .inl (Y.2.2.1.1, 16, .inl (fun _ => 0)))]) := hD
  exact g_vret q0 hF trivial hP hD hS dJ4_init_da8c8_6 (Nat.le_of_ble_eq_true rfl) (Nat.le_of_ble_eq_true rfl)
