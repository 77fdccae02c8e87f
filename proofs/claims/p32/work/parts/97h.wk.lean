/-! (by wip/p32/wk2.py) -/
abbrev rn_X9_init : Room := { frames := 4, cells := 1001, slots := 2100, locals := 240 }
set_option maxHeartbeats 4000000 in
set_option maxRecDepth 100000 in
theorem c_X9_init {l : Launch} {D : va_G} {Y : CYs} {h b L : Nat} {xs : Nat → Int32} (hL : L ≤ 260) (sz : Nat) : Met l yX9_init (Cond.code yX9_init cX9_init 3 none :: gW) rn_X9_init (PcE (SCR b L xs) ([(h, .inr (11, [.int 0, .int 0, .int 0, .int 0, .int 0, .int 0, .int 0, .int 0, .int 0, .null, .int 0]))]) Y D sz [.ref h, .ref b, .int 0]) (GV (S := (Nat → Int32) × Nat × Nat) (fun u => ∃ n f p q bk aj b jp go, WKr u.1 n f p q bk aj b jp go) (fun u => [(h, .inr (11, wkO u.1 u.2.1 u.2.2))]) Y D (va_A ([(h, .inr (11, [.int 0, .int 0, .int 0, .int 0, .int 0, .int 0, .int 0, .int 0, .int 0, .null, .int 0]))]) sz)) 1001 2100 (va_A ([(h, .inr (11, [.int 0, .int 0, .int 0, .int 0, .int 0, .int 0, .int 0, .int 0, .int 0, .null, .int 0]))]) sz) := by
  refine Met_ofE (Qc := GV (S := (Nat → Int32) × Nat × Nat) (fun u => ∃ n f p q bk aj b jp go, WKr u.1 n f p q bk aj b jp go) (fun u => [(h, .inr (11, wkO u.1 u.2.1 u.2.2))]) Y D) (by decide) (Nat.le_of_ble_eq_true rfl) (fun p e s m args below meth c A hF hX hin hP hD hS ls hl => ?_) sz
  obtain ⟨hC, hb, hml, hr, hlk, hSW, hA⟩ := id hF
  have hx := hC.1
  have hl : lv_has ls 3 [(0, .ref h), (1, .ref b), (2, .int 0)] := hl
  refine lv_aload_n hx hb dX9_init_0 rfl (lv_at hl 0 rfl) ?_
  refine n_obj hC hb (hl.1.trans hml.symm) (gw_t (tb3 (List.mem_of_getElem? (i := 167) rfl)) rfl) dX9_init_1 (Nat.le_of_ble_eq_true rfl) (Nat.le_of_ble_eq_true rfl) ?_
  refine lv_aload_n hx hb dX9_init_4 rfl (lv_at hl 0 rfl) ?_
  refine lv_bipush (v := 100) hx hb dX9_init_5 (by decide) ?_
  refine lv_iconst (v := 2) hx hb dX9_init_7 (by decide) ?_
  refine n_mna hC hb (gw_t (tb3 (List.mem_of_getElem? (i := 168) rfl)) rfl) hP hD hS hA (Nat.le_of_ble_eq_true rfl) (Nat.le_of_ble_eq_true rfl) dX9_init_8 (fun g fg H locs hP hD hS => ?_)
  have hP : va_P D vwCl ([(h, .inr (11, [.int 0, .int 0, .int 0, .int 0, .int 0, .int 0, .int 0, .int 0, .int 0, .null, .int 0])), (g, .inl (Y.2.2.1.2, 100, .inr (.inr (.inr (.inr fg)))))]) H := hP
  have hD : va_D A ([(h, .inr (11, [.int 0, .int 0, .int 0, .int 0, .int 0, .int 0, .int 0, .int 0, .int 0, .null, .int 0])), (g, .inl (Y.2.2.1.2, 100, .inr (.inr (.inr (.inr fg)))))]) := hD
  refine n_putF hC hb hP hD hS inGX9 tyX9 tyX9_ok nmX9 0 rfl rfl 9 (by decide) (gw_t (tb3 (List.mem_of_getElem? (i := 211) rfl)) rfl) rfl rfl hin rfl rfl rfl rfl (Nat.le_of_ble_eq_true rfl) dX9_init_12 (fun H locs hP hD hS => ?_)
  have hP : va_P D vwCl ([(h, .inr (11, [.int 0, .int 0, .int 0, .int 0, .int 0, .int 0, .int 0, .int 0, .int 0, .ref g, .int 0])), (g, .inl (Y.2.2.1.2, 100, .inr (.inr (.inr (.inr fg)))))]) H := hP
  have hD : va_D A ([(h, .inr (11, [.int 0, .int 0, .int 0, .int 0, .int 0, .int 0, .int 0, .int 0, .int 0, .ref g, .int 0])), (g, .inl (Y.2.2.1.2, 100, .inr (.inr (.inr (.inr fg)))))]) := hD
  refine lv_aload_n hx hb dX9_init_15 rfl (lv_at hl 0 rfl) ?_
  refine lv_iconst (v := 2) hx hb dX9_init_16 (by decide) ?_
  refine lv_aload_n hx hb dX9_init_17 rfl (lv_at hl 1 rfl) ?_
  refine lv_iload_n hx hb dX9_init_18 rfl (lv_at hl 2 rfl) ?_
  refine lv_topi (fun x1 ex1 => ?_)
  have ex1 : x1 = nI 0 := ex1.trans (rfl)
  subst ex1
  refine g_i (Rs := [(h, .inr (11, [.int 0, .int 0, .int 0, .int 0, .int 0, .int 0, .int 0, .int 0, .int 0, .ref g, .int 0])), (g, .inl (Y.2.2.1.2, 100, .inr (.inr (.inr (.inr fg)))))]) (C0 := []) (As := [.ref b, .int (nI 0)]) hF hP hD hS SCR_ok (X_at (Rs := [(h, .inr (11, [.int 0, .int 0, .int 0, .int 0, .int 0, .int 0, .int 0, .int 0, .int 0, .ref g, .int 0])), (g, .inl (Y.2.2.1.2, 100, .inr (.inr (.inr (.inr fg)))))]) (C0 := []) SCR_ok hF hX hD hS) (rSN (As := [.ref b, .int (nI 0)]) (rest := [.int 2, .ref h]) hF hl (c_L_cell (kx := 0) hL (by decide) _) ⟨va_cnB 2 hC.2.1 (gi_law (gw_t (tb3 (List.mem_of_getElem? (i := 172) rfl)) rfl)) rfl rfl rfl (hC.2.2.2.2.1 (Cond.methodLinkNest RX9 14 yL_cell "MarkovBenchLaw") (List.mem_of_getElem? (i := 52) rfl)) (hC.2.1 (Cond.initialized RL) (gw_t (tb1 (List.mem_of_getElem? (i := 0) rfl)) rfl)) ⟨by decide +kernel, by decide +kernel, by decide +kernel⟩ ⟨(Nat.le_of_ble_eq_true rfl), (Nat.le_of_ble_eq_true rfl)⟩, hC.2.1 (Cond.static yL_cell) (gw_t (tb3 (List.mem_of_getElem? (i := 171) rfl)) rfl)⟩ rfl rfl (Nat.le_of_ble_eq_true rfl) dX9_init_19 ⟨(Nat.le_of_ble_eq_true rfl), (Nat.le_of_ble_eq_true rfl)⟩) (fun w1 u H locs hp hP hD hS => ?_)
  have hP : va_P D vwCl ([(h, .inr (11, [.int 0, .int 0, .int 0, .int 0, .int 0, .int 0, .int 0, .int 0, .int 0, .ref g, .int 0])), (g, .inl (Y.2.2.1.2, 100, .inr (.inr (.inr (.inr fg)))))]) H := hP
  have hD : va_D A ([(h, .inr (11, [.int 0, .int 0, .int 0, .int 0, .int 0, .int 0, .int 0, .int 0, .int 0, .ref g, .int 0])), (g, .inl (Y.2.2.1.2, 100, .inr (.inr (.inr (.inr fg)))))]) := hD
  refine lv_bipush (v := 20) hx hb dX9_init_22 (by decide) ?_
  refine lv_topi (fun x2 ex2 => ?_)
  have ex2 : x2 = nI 20 := ex2.trans (rfl)
  subst ex2
  refine g_i (Rs := [(h, .inr (11, [.int 0, .int 0, .int 0, .int 0, .int 0, .int 0, .int 0, .int 0, .int 0, .ref g, .int 0])), (g, .inl (Y.2.2.1.2, 100, .inr (.inr (.inr (.inr fg)))))]) (C0 := []) (As := [.int w1, .int (nI (20))]) hF hP hD hS XN_ok trivial (rSN (As := [.int w1, .int (nI (20))]) (rest := [.int 2, .ref h]) hF hl (c_L_below (k1 := 20) (by decide) (by decide) _) ⟨va_cnB 2 hC.2.1 (gi_law (gw_t (tb3 (List.mem_of_getElem? (i := 176) rfl)) rfl)) rfl rfl rfl (hC.2.2.2.2.1 (Cond.methodLinkNest RX9 20 yL_below "MarkovBenchLaw") (List.mem_of_getElem? (i := 53) rfl)) (hC.2.1 (Cond.initialized RL) (gw_t (tb1 (List.mem_of_getElem? (i := 0) rfl)) rfl)) ⟨by decide +kernel, by decide +kernel, by decide +kernel⟩ ⟨(Nat.le_of_ble_eq_true rfl), (Nat.le_of_ble_eq_true rfl)⟩, hC.2.1 (Cond.static yL_below) (gw_t (tb3 (List.mem_of_getElem? (i := 175) rfl)) rfl)⟩ rfl rfl (Nat.le_of_ble_eq_true rfl) dX9_init_24 ⟨(Nat.le_of_ble_eq_true rfl), (Nat.le_of_ble_eq_true rfl)⟩) (fun r u H locs hp hP hD hS => ?_)
  obtain ⟨j1, hj1, rfl⟩ := hp
  have hP : va_P D vwCl ([(h, .inr (11, [.int 0, .int 0, .int 0, .int 0, .int 0, .int 0, .int 0, .int 0, .int 0, .ref g, .int 0])), (g, .inl (Y.2.2.1.2, 100, .inr (.inr (.inr (.inr fg)))))]) H := hP
  have hD : va_D A ([(h, .inr (11, [.int 0, .int 0, .int 0, .int 0, .int 0, .int 0, .int 0, .int 0, .int 0, .ref g, .int 0])), (g, .inl (Y.2.2.1.2, 100, .inr (.inr (.inr (.inr fg)))))]) := hD
  refine lv_iadd hx hb dX9_init_27 ?_
  refine lv_topi (fun x3 ex3 => ?_)
  have ex3 : x3 = nI (2 + j1) := ex3.trans (nI_add 2 _)
  subst ex3
  refine n_putF hC hb hP hD hS inGX9 tyX9 tyX9_ok nmX9 0 rfl rfl 0 (by decide) (gw_t (tb3 (List.mem_of_getElem? (i := 202) rfl)) rfl) rfl rfl hin rfl rfl rfl rfl (Nat.le_of_ble_eq_true rfl) dX9_init_28 (fun H locs hP hD hS => ?_)
  have hP : va_P D vwCl ([(h, .inr (11, [.int (nI (2 + j1)), .int 0, .int 0, .int 0, .int 0, .int 0, .int 0, .int 0, .int 0, .ref g, .int 0])), (g, .inl (Y.2.2.1.2, 100, .inr (.inr (.inr (.inr fg)))))]) H := hP
  have hD : va_D A ([(h, .inr (11, [.int (nI (2 + j1)), .int 0, .int 0, .int 0, .int 0, .int 0, .int 0, .int 0, .int 0, .ref g, .int 0])), (g, .inl (Y.2.2.1.2, 100, .inr (.inr (.inr (.inr fg)))))]) := hD
  refine lv_aload_n hx hb dX9_init_31 rfl (lv_at hl 0 rfl) ?_
  refine lv_aload_n hx hb dX9_init_32 rfl (lv_at hl 1 rfl) ?_
  refine lv_iload_n hx hb dX9_init_33 rfl (lv_at hl 2 rfl) ?_
  refine lv_topi (fun x4 ex4 => ?_)
  have ex4 : x4 = nI 0 := ex4.trans (rfl)
  subst ex4
  refine g_i (Rs := [(h, .inr (11, [.int (nI (2 + j1)), .int 0, .int 0, .int 0, .int 0, .int 0, .int 0, .int 0, .int 0, .ref g, .int 0])), (g, .inl (Y.2.2.1.2, 100, .inr (.inr (.inr (.inr fg)))))]) (C0 := []) (As := [.ref b, .int (nI 0)]) hF hP hD hS SCR_ok (X_at (Rs := [(h, .inr (11, [.int (nI (2 + j1)), .int 0, .int 0, .int 0, .int 0, .int 0, .int 0, .int 0, .int 0, .ref g, .int 0])), (g, .inl (Y.2.2.1.2, 100, .inr (.inr (.inr (.inr fg)))))]) (C0 := []) SCR_ok hF hX hD hS) (rSN (As := [.ref b, .int (nI 0)]) (rest := [.ref h]) hF hl (c_L_cell (kx := 0) hL (by decide) _) ⟨va_cnB 2 hC.2.1 (gi_law (gw_t (tb3 (List.mem_of_getElem? (i := 172) rfl)) rfl)) rfl rfl rfl (hC.2.2.2.2.1 (Cond.methodLinkNest RX9 14 yL_cell "MarkovBenchLaw") (List.mem_of_getElem? (i := 52) rfl)) (hC.2.1 (Cond.initialized RL) (gw_t (tb1 (List.mem_of_getElem? (i := 0) rfl)) rfl)) ⟨by decide +kernel, by decide +kernel, by decide +kernel⟩ ⟨(Nat.le_of_ble_eq_true rfl), (Nat.le_of_ble_eq_true rfl)⟩, hC.2.1 (Cond.static yL_cell) (gw_t (tb3 (List.mem_of_getElem? (i := 171) rfl)) rfl)⟩ rfl rfl (Nat.le_of_ble_eq_true rfl) dX9_init_34 ⟨(Nat.le_of_ble_eq_true rfl), (Nat.le_of_ble_eq_true rfl)⟩) (fun w2 u H locs hp hP hD hS => ?_)
  have hP : va_P D vwCl ([(h, .inr (11, [.int (nI (2 + j1)), .int 0, .int 0, .int 0, .int 0, .int 0, .int 0, .int 0, .int 0, .ref g, .int 0])), (g, .inl (Y.2.2.1.2, 100, .inr (.inr (.inr (.inr fg)))))]) H := hP
  have hD : va_D A ([(h, .inr (11, [.int (nI (2 + j1)), .int 0, .int 0, .int 0, .int 0, .int 0, .int 0, .int 0, .int 0, .ref g, .int 0])), (g, .inl (Y.2.2.1.2, 100, .inr (.inr (.inr (.inr fg)))))]) := hD
  refine lv_iconst (v := 3) hx hb dX9_init_37 (by decide) ?_
  refine lv_ishr hx hb dX9_init_38 ?_
  refine lv_aload_n hx hb dX9_init_39 rfl (lv_at hl 0 rfl) ?_
  refine n_get hC hb hP inGX9 0 rfl rfl 0 (by decide) rfl (gw_t (tb3 (List.mem_of_getElem? (i := 202) rfl)) rfl) rfl dX9_init_40 ?_
  refine lv_iconst (v := 1) hx hb dX9_init_43 (by decide) ?_
  refine lv_iadd hx hb dX9_init_44 ?_
  refine lv_topi (fun x5 ex5 => ?_)
  have ex5 : x5 = nI (2 + j1 + 1) := ex5.trans (nI_1 _)
  subst ex5
  refine g_i (Rs := [(h, .inr (11, [.int (nI (2 + j1)), .int 0, .int 0, .int 0, .int 0, .int 0, .int 0, .int 0, .int 0, .ref g, .int 0])), (g, .inl (Y.2.2.1.2, 100, .inr (.inr (.inr (.inr fg)))))]) (C0 := []) (As := [.int (w2 >>> (3 &&& 31)), .int (nI (2 + j1 + 1))]) hF hP hD hS XN_ok trivial (rSN (As := [.int (w2 >>> (3 &&& 31)), .int (nI (2 + j1 + 1))]) (rest := [.ref h]) hF hl (c_L_below (k1 := 2 + j1 + 1) (by omega) (by omega) _) ⟨va_cnB 2 hC.2.1 (gi_law (gw_t (tb3 (List.mem_of_getElem? (i := 176) rfl)) rfl)) rfl rfl rfl (hC.2.2.2.2.1 (Cond.methodLinkNest RX9 20 yL_below "MarkovBenchLaw") (List.mem_of_getElem? (i := 53) rfl)) (hC.2.1 (Cond.initialized RL) (gw_t (tb1 (List.mem_of_getElem? (i := 0) rfl)) rfl)) ⟨by decide +kernel, by decide +kernel, by decide +kernel⟩ ⟨(Nat.le_of_ble_eq_true rfl), (Nat.le_of_ble_eq_true rfl)⟩, hC.2.1 (Cond.static yL_below) (gw_t (tb3 (List.mem_of_getElem? (i := 175) rfl)) rfl)⟩ rfl rfl (Nat.le_of_ble_eq_true rfl) dX9_init_45 ⟨(Nat.le_of_ble_eq_true rfl), (Nat.le_of_ble_eq_true rfl)⟩) (fun r u H locs hp hP hD hS => ?_)
  obtain ⟨j2, hj2, rfl⟩ := hp
  have hP : va_P D vwCl ([(h, .inr (11, [.int (nI (2 + j1)), .int 0, .int 0, .int 0, .int 0, .int 0, .int 0, .int 0, .int 0, .ref g, .int 0])), (g, .inl (Y.2.2.1.2, 100, .inr (.inr (.inr (.inr fg)))))]) H := hP
  have hD : va_D A ([(h, .inr (11, [.int (nI (2 + j1)), .int 0, .int 0, .int 0, .int 0, .int 0, .int 0, .int 0, .int 0, .ref g, .int 0])), (g, .inl (Y.2.2.1.2, 100, .inr (.inr (.inr (.inr fg)))))]) := hD
  refine n_putF hC hb hP hD hS inGX9 tyX9 tyX9_ok nmX9 0 rfl rfl 1 (by decide) (gw_t (tb3 (List.mem_of_getElem? (i := 203) rfl)) rfl) rfl rfl hin rfl rfl rfl rfl (Nat.le_of_ble_eq_true rfl) dX9_init_48 (fun H locs hP hD hS => ?_)
  have hP : va_P D vwCl ([(h, .inr (11, [.int (nI (2 + j1)), .int (nI j2), .int 0, .int 0, .int 0, .int 0, .int 0, .int 0, .int 0, .ref g, .int 0])), (g, .inl (Y.2.2.1.2, 100, .inr (.inr (.inr (.inr fg)))))]) H := hP
  have hD : va_D A ([(h, .inr (11, [.int (nI (2 + j1)), .int (nI j2), .int 0, .int 0, .int 0, .int 0, .int 0, .int 0, .int 0, .ref g, .int 0])), (g, .inl (Y.2.2.1.2, 100, .inr (.inr (.inr (.inr fg)))))]) := hD
  refine lv_aload_n hx hb dX9_init_51 rfl (lv_at hl 0 rfl) ?_
  refine lv_iconst (v := 1) hx hb dX9_init_52 (by decide) ?_
  refine lv_aload_n hx hb dX9_init_53 rfl (lv_at hl 1 rfl) ?_
  refine lv_iload_n hx hb dX9_init_54 rfl (lv_at hl 2 rfl) ?_
  refine lv_iconst (v := 1) hx hb dX9_init_55 (by decide) ?_
  refine lv_iadd hx hb dX9_init_56 ?_
  refine lv_topi (fun x6 ex6 => ?_)
  have ex6 : x6 = nI 1 := ex6.trans (rfl)
  subst ex6
  refine g_i (Rs := [(h, .inr (11, [.int (nI (2 + j1)), .int (nI j2), .int 0, .int 0, .int 0, .int 0, .int 0, .int 0, .int 0, .ref g, .int 0])), (g, .inl (Y.2.2.1.2, 100, .inr (.inr (.inr (.inr fg)))))]) (C0 := []) (As := [.ref b, .int (nI 1)]) hF hP hD hS SCR_ok (X_at (Rs := [(h, .inr (11, [.int (nI (2 + j1)), .int (nI j2), .int 0, .int 0, .int 0, .int 0, .int 0, .int 0, .int 0, .ref g, .int 0])), (g, .inl (Y.2.2.1.2, 100, .inr (.inr (.inr (.inr fg)))))]) (C0 := []) SCR_ok hF hX hD hS) (rSN (As := [.ref b, .int (nI 1)]) (rest := [.int 1, .ref h]) hF hl (c_L_cell (kx := 1) hL (by decide) _) ⟨va_cnB 2 hC.2.1 (gi_law (gw_t (tb3 (List.mem_of_getElem? (i := 172) rfl)) rfl)) rfl rfl rfl (hC.2.2.2.2.1 (Cond.methodLinkNest RX9 14 yL_cell "MarkovBenchLaw") (List.mem_of_getElem? (i := 52) rfl)) (hC.2.1 (Cond.initialized RL) (gw_t (tb1 (List.mem_of_getElem? (i := 0) rfl)) rfl)) ⟨by decide +kernel, by decide +kernel, by decide +kernel⟩ ⟨(Nat.le_of_ble_eq_true rfl), (Nat.le_of_ble_eq_true rfl)⟩, hC.2.1 (Cond.static yL_cell) (gw_t (tb3 (List.mem_of_getElem? (i := 171) rfl)) rfl)⟩ rfl rfl (Nat.le_of_ble_eq_true rfl) dX9_init_57 ⟨(Nat.le_of_ble_eq_true rfl), (Nat.le_of_ble_eq_true rfl)⟩) (fun w3 u H locs hp hP hD hS => ?_)
  have hP : va_P D vwCl ([(h, .inr (11, [.int (nI (2 + j1)), .int (nI j2), .int 0, .int 0, .int 0, .int 0, .int 0, .int 0, .int 0, .ref g, .int 0])), (g, .inl (Y.2.2.1.2, 100, .inr (.inr (.inr (.inr fg)))))]) H := hP
  have hD : va_D A ([(h, .inr (11, [.int (nI (2 + j1)), .int (nI j2), .int 0, .int 0, .int 0, .int 0, .int 0, .int 0, .int 0, .ref g, .int 0])), (g, .inl (Y.2.2.1.2, 100, .inr (.inr (.inr (.inr fg)))))]) := hD
  refine lv_bipush (v := 97) hx hb dX9_init_60 (by decide) ?_
  refine lv_topi (fun x7 ex7 => ?_)
  have ex7 : x7 = nI 97 := ex7.trans (rfl)
  subst ex7
  refine g_i (Rs := [(h, .inr (11, [.int (nI (2 + j1)), .int (nI j2), .int 0, .int 0, .int 0, .int 0, .int 0, .int 0, .int 0, .ref g, .int 0])), (g, .inl (Y.2.2.1.2, 100, .inr (.inr (.inr (.inr fg)))))]) (C0 := []) (As := [.int w3, .int (nI (97))]) hF hP hD hS XN_ok trivial (rSN (As := [.int w3, .int (nI (97))]) (rest := [.int 1, .ref h]) hF hl (c_L_below (k1 := 97) (by decide) (by decide) _) ⟨va_cnB 2 hC.2.1 (gi_law (gw_t (tb3 (List.mem_of_getElem? (i := 176) rfl)) rfl)) rfl rfl rfl (hC.2.2.2.2.1 (Cond.methodLinkNest RX9 20 yL_below "MarkovBenchLaw") (List.mem_of_getElem? (i := 53) rfl)) (hC.2.1 (Cond.initialized RL) (gw_t (tb1 (List.mem_of_getElem? (i := 0) rfl)) rfl)) ⟨by decide +kernel, by decide +kernel, by decide +kernel⟩ ⟨(Nat.le_of_ble_eq_true rfl), (Nat.le_of_ble_eq_true rfl)⟩, hC.2.1 (Cond.static yL_below) (gw_t (tb3 (List.mem_of_getElem? (i := 175) rfl)) rfl)⟩ rfl rfl (Nat.le_of_ble_eq_true rfl) dX9_init_62 ⟨(Nat.le_of_ble_eq_true rfl), (Nat.le_of_ble_eq_true rfl)⟩) (fun r u H locs hp hP hD hS => ?_)
  obtain ⟨j3, hj3, rfl⟩ := hp
  have hP : va_P D vwCl ([(h, .inr (11, [.int (nI (2 + j1)), .int (nI j2), .int 0, .int 0, .int 0, .int 0, .int 0, .int 0, .int 0, .ref g, .int 0])), (g, .inl (Y.2.2.1.2, 100, .inr (.inr (.inr (.inr fg)))))]) H := hP
  have hD : va_D A ([(h, .inr (11, [.int (nI (2 + j1)), .int (nI j2), .int 0, .int 0, .int 0, .int 0, .int 0, .int 0, .int 0, .ref g, .int 0])), (g, .inl (Y.2.2.1.2, 100, .inr (.inr (.inr (.inr fg)))))]) := hD
  refine lv_iadd hx hb dX9_init_65 ?_
  refine lv_topi (fun x8 ex8 => ?_)
  have ex8 : x8 = nI (1 + j3) := ex8.trans (nI_add 1 _)
  subst ex8
  refine n_putF hC hb hP hD hS inGX9 tyX9 tyX9_ok nmX9 0 rfl rfl 2 (by decide) (gw_t (tb3 (List.mem_of_getElem? (i := 204) rfl)) rfl) rfl rfl hin rfl rfl rfl rfl (Nat.le_of_ble_eq_true rfl) dX9_init_66 (fun H locs hP hD hS => ?_)
  have hP : va_P D vwCl ([(h, .inr (11, [.int (nI (2 + j1)), .int (nI j2), .int (nI (1 + j3)), .int 0, .int 0, .int 0, .int 0, .int 0, .int 0, .ref g, .int 0])), (g, .inl (Y.2.2.1.2, 100, .inr (.inr (.inr (.inr fg)))))]) H := hP
  have hD : va_D A ([(h, .inr (11, [.int (nI (2 + j1)), .int (nI j2), .int (nI (1 + j3)), .int 0, .int 0, .int 0, .int 0, .int 0, .int 0, .ref g, .int 0])), (g, .inl (Y.2.2.1.2, 100, .inr (.inr (.inr (.inr fg)))))]) := hD
  refine lv_aload_n hx hb dX9_init_69 rfl (lv_at hl 0 rfl) ?_
  refine lv_iconst (v := 1) hx hb dX9_init_70 (by decide) ?_
  refine lv_aload_n hx hb dX9_init_71 rfl (lv_at hl 1 rfl) ?_
  refine lv_iload_n hx hb dX9_init_72 rfl (lv_at hl 2 rfl) ?_
  refine lv_iconst (v := 1) hx hb dX9_init_73 (by decide) ?_
  refine lv_iadd hx hb dX9_init_74 ?_
  refine lv_topi (fun x9 ex9 => ?_)
  have ex9 : x9 = nI 1 := ex9.trans (rfl)
  subst ex9
  refine g_i (Rs := [(h, .inr (11, [.int (nI (2 + j1)), .int (nI j2), .int (nI (1 + j3)), .int 0, .int 0, .int 0, .int 0, .int 0, .int 0, .ref g, .int 0])), (g, .inl (Y.2.2.1.2, 100, .inr (.inr (.inr (.inr fg)))))]) (C0 := []) (As := [.ref b, .int (nI 1)]) hF hP hD hS SCR_ok (X_at (Rs := [(h, .inr (11, [.int (nI (2 + j1)), .int (nI j2), .int (nI (1 + j3)), .int 0, .int 0, .int 0, .int 0, .int 0, .int 0, .ref g, .int 0])), (g, .inl (Y.2.2.1.2, 100, .inr (.inr (.inr (.inr fg)))))]) (C0 := []) SCR_ok hF hX hD hS) (rSN (As := [.ref b, .int (nI 1)]) (rest := [.int 1, .ref h]) hF hl (c_L_cell (kx := 1) hL (by decide) _) ⟨va_cnB 2 hC.2.1 (gi_law (gw_t (tb3 (List.mem_of_getElem? (i := 172) rfl)) rfl)) rfl rfl rfl (hC.2.2.2.2.1 (Cond.methodLinkNest RX9 14 yL_cell "MarkovBenchLaw") (List.mem_of_getElem? (i := 52) rfl)) (hC.2.1 (Cond.initialized RL) (gw_t (tb1 (List.mem_of_getElem? (i := 0) rfl)) rfl)) ⟨by decide +kernel, by decide +kernel, by decide +kernel⟩ ⟨(Nat.le_of_ble_eq_true rfl), (Nat.le_of_ble_eq_true rfl)⟩, hC.2.1 (Cond.static yL_cell) (gw_t (tb3 (List.mem_of_getElem? (i := 171) rfl)) rfl)⟩ rfl rfl (Nat.le_of_ble_eq_true rfl) dX9_init_75 ⟨(Nat.le_of_ble_eq_true rfl), (Nat.le_of_ble_eq_true rfl)⟩) (fun w4 u H locs hp hP hD hS => ?_)
  have hP : va_P D vwCl ([(h, .inr (11, [.int (nI (2 + j1)), .int (nI j2), .int (nI (1 + j3)), .int 0, .int 0, .int 0, .int 0, .int 0, .int 0, .ref g, .int 0])), (g, .inl (Y.2.2.1.2, 100, .inr (.inr (.inr (.inr fg)))))]) H := hP
  have hD : va_D A ([(h, .inr (11, [.int (nI (2 + j1)), .int (nI j2), .int (nI (1 + j3)), .int 0, .int 0, .int 0, .int 0, .int 0, .int 0, .ref g, .int 0])), (g, .inl (Y.2.2.1.2, 100, .inr (.inr (.inr (.inr fg)))))]) := hD
  refine lv_iconst (v := 5) hx hb dX9_init_78 (by decide) ?_
  refine lv_ishr hx hb dX9_init_79 ?_
  refine lv_bipush (v := 99) hx hb dX9_init_80 (by decide) ?_
  refine lv_aload_n hx hb dX9_init_82 rfl (lv_at hl 0 rfl) ?_
  refine n_get hC hb hP inGX9 0 rfl rfl 2 (by decide) rfl (gw_t (tb3 (List.mem_of_getElem? (i := 204) rfl)) rfl) rfl dX9_init_83 ?_
  refine lv_isub hx hb dX9_init_86 ?_
  refine lv_topi (fun x10 ex10 => ?_)
  have ex10 : x10 = nI (99 - (1 + j3)) := ex10.trans (pk_sub (a := 99) (by omega))
  subst ex10
  refine g_i (Rs := [(h, .inr (11, [.int (nI (2 + j1)), .int (nI j2), .int (nI (1 + j3)), .int 0, .int 0, .int 0, .int 0, .int 0, .int 0, .ref g, .int 0])), (g, .inl (Y.2.2.1.2, 100, .inr (.inr (.inr (.inr fg)))))]) (C0 := []) (As := [.int (w4 >>> (5 &&& 31)), .int (nI (99 - (1 + j3)))]) hF hP hD hS XN_ok trivial (rSN (As := [.int (w4 >>> (5 &&& 31)), .int (nI (99 - (1 + j3)))]) (rest := [.int 1, .ref h]) hF hl (c_L_below (k1 := 99 - (1 + j3)) (by omega) (by omega) _) ⟨va_cnB 2 hC.2.1 (gi_law (gw_t (tb3 (List.mem_of_getElem? (i := 176) rfl)) rfl)) rfl rfl rfl (hC.2.2.2.2.1 (Cond.methodLinkNest RX9 20 yL_below "MarkovBenchLaw") (List.mem_of_getElem? (i := 53) rfl)) (hC.2.1 (Cond.initialized RL) (gw_t (tb1 (List.mem_of_getElem? (i := 0) rfl)) rfl)) ⟨by decide +kernel, by decide +kernel, by decide +kernel⟩ ⟨(Nat.le_of_ble_eq_true rfl), (Nat.le_of_ble_eq_true rfl)⟩, hC.2.1 (Cond.static yL_below) (gw_t (tb3 (List.mem_of_getElem? (i := 175) rfl)) rfl)⟩ rfl rfl (Nat.le_of_ble_eq_true rfl) dX9_init_87 ⟨(Nat.le_of_ble_eq_true rfl), (Nat.le_of_ble_eq_true rfl)⟩) (fun r u H locs hp hP hD hS => ?_)
  obtain ⟨j4, hj4, rfl⟩ := hp
  have hP : va_P D vwCl ([(h, .inr (11, [.int (nI (2 + j1)), .int (nI j2), .int (nI (1 + j3)), .int 0, .int 0, .int 0, .int 0, .int 0, .int 0, .ref g, .int 0])), (g, .inl (Y.2.2.1.2, 100, .inr (.inr (.inr (.inr fg)))))]) H := hP
  have hD : va_D A ([(h, .inr (11, [.int (nI (2 + j1)), .int (nI j2), .int (nI (1 + j3)), .int 0, .int 0, .int 0, .int 0, .int 0, .int 0, .ref g, .int 0])), (g, .inl (Y.2.2.1.2, 100, .inr (.inr (.inr (.inr fg)))))]) := hD
  refine lv_iadd hx hb dX9_init_90 ?_
  refine lv_topi (fun x11 ex11 => ?_)
  have ex11 : x11 = nI (1 + j4) := ex11.trans (nI_add 1 _)
  subst ex11
  refine n_putF hC hb hP hD hS inGX9 tyX9 tyX9_ok nmX9 0 rfl rfl 3 (by decide) (gw_t (tb3 (List.mem_of_getElem? (i := 205) rfl)) rfl) rfl rfl hin rfl rfl rfl rfl (Nat.le_of_ble_eq_true rfl) dX9_init_91 (fun H locs hP hD hS => ?_)
  have hP : va_P D vwCl ([(h, .inr (11, [.int (nI (2 + j1)), .int (nI j2), .int (nI (1 + j3)), .int (nI (1 + j4)), .int 0, .int 0, .int 0, .int 0, .int 0, .ref g, .int 0])), (g, .inl (Y.2.2.1.2, 100, .inr (.inr (.inr (.inr fg)))))]) H := hP
  have hD : va_D A ([(h, .inr (11, [.int (nI (2 + j1)), .int (nI j2), .int (nI (1 + j3)), .int (nI (1 + j4)), .int 0, .int 0, .int 0, .int 0, .int 0, .ref g, .int 0])), (g, .inl (Y.2.2.1.2, 100, .inr (.inr (.inr (.inr fg)))))]) := hD
  refine lv_aload_n hx hb dX9_init_94 rfl (lv_at hl 0 rfl) ?_
  refine lv_iconst (v := 1) hx hb dX9_init_95 (by decide) ?_
  refine lv_aload_n hx hb dX9_init_96 rfl (lv_at hl 1 rfl) ?_
  refine lv_iload_n hx hb dX9_init_97 rfl (lv_at hl 2 rfl) ?_
  refine lv_iconst (v := 2) hx hb dX9_init_98 (by decide) ?_
  refine lv_iadd hx hb dX9_init_99 ?_
  refine lv_topi (fun x12 ex12 => ?_)
  have ex12 : x12 = nI 2 := ex12.trans (rfl)
  subst ex12
  refine g_i (Rs := [(h, .inr (11, [.int (nI (2 + j1)), .int (nI j2), .int (nI (1 + j3)), .int (nI (1 + j4)), .int 0, .int 0, .int 0, .int 0, .int 0, .ref g, .int 0])), (g, .inl (Y.2.2.1.2, 100, .inr (.inr (.inr (.inr fg)))))]) (C0 := []) (As := [.ref b, .int (nI 2)]) hF hP hD hS SCR_ok (X_at (Rs := [(h, .inr (11, [.int (nI (2 + j1)), .int (nI j2), .int (nI (1 + j3)), .int (nI (1 + j4)), .int 0, .int 0, .int 0, .int 0, .int 0, .ref g, .int 0])), (g, .inl (Y.2.2.1.2, 100, .inr (.inr (.inr (.inr fg)))))]) (C0 := []) SCR_ok hF hX hD hS) (rSN (As := [.ref b, .int (nI 2)]) (rest := [.int 1, .ref h]) hF hl (c_L_cell (kx := 2) hL (by decide) _) ⟨va_cnB 2 hC.2.1 (gi_law (gw_t (tb3 (List.mem_of_getElem? (i := 172) rfl)) rfl)) rfl rfl rfl (hC.2.2.2.2.1 (Cond.methodLinkNest RX9 14 yL_cell "MarkovBenchLaw") (List.mem_of_getElem? (i := 52) rfl)) (hC.2.1 (Cond.initialized RL) (gw_t (tb1 (List.mem_of_getElem? (i := 0) rfl)) rfl)) ⟨by decide +kernel, by decide +kernel, by decide +kernel⟩ ⟨(Nat.le_of_ble_eq_true rfl), (Nat.le_of_ble_eq_true rfl)⟩, hC.2.1 (Cond.static yL_cell) (gw_t (tb3 (List.mem_of_getElem? (i := 171) rfl)) rfl)⟩ rfl rfl (Nat.le_of_ble_eq_true rfl) dX9_init_100 ⟨(Nat.le_of_ble_eq_true rfl), (Nat.le_of_ble_eq_true rfl)⟩) (fun w5 u H locs hp hP hD hS => ?_)
  have hP : va_P D vwCl ([(h, .inr (11, [.int (nI (2 + j1)), .int (nI j2), .int (nI (1 + j3)), .int (nI (1 + j4)), .int 0, .int 0, .int 0, .int 0, .int 0, .ref g, .int 0])), (g, .inl (Y.2.2.1.2, 100, .inr (.inr (.inr (.inr fg)))))]) H := hP
  have hD : va_D A ([(h, .inr (11, [.int (nI (2 + j1)), .int (nI j2), .int (nI (1 + j3)), .int (nI (1 + j4)), .int 0, .int 0, .int 0, .int 0, .int 0, .ref g, .int 0])), (g, .inl (Y.2.2.1.2, 100, .inr (.inr (.inr (.inr fg)))))]) := hD
  refine lv_iconst (v := 5) hx hb dX9_init_103 (by decide) ?_
  refine lv_topi (fun x13 ex13 => ?_)
  have ex13 : x13 = nI 5 := ex13.trans (rfl)
  subst ex13
  refine g_i (Rs := [(h, .inr (11, [.int (nI (2 + j1)), .int (nI j2), .int (nI (1 + j3)), .int (nI (1 + j4)), .int 0, .int 0, .int 0, .int 0, .int 0, .ref g, .int 0])), (g, .inl (Y.2.2.1.2, 100, .inr (.inr (.inr (.inr fg)))))]) (C0 := []) (As := [.int w5, .int (nI (5))]) hF hP hD hS XN_ok trivial (rSN (As := [.int w5, .int (nI (5))]) (rest := [.int 1, .ref h]) hF hl (c_L_below (k1 := 5) (by decide) (by decide) _) ⟨va_cnB 2 hC.2.1 (gi_law (gw_t (tb3 (List.mem_of_getElem? (i := 176) rfl)) rfl)) rfl rfl rfl (hC.2.2.2.2.1 (Cond.methodLinkNest RX9 20 yL_below "MarkovBenchLaw") (List.mem_of_getElem? (i := 53) rfl)) (hC.2.1 (Cond.initialized RL) (gw_t (tb1 (List.mem_of_getElem? (i := 0) rfl)) rfl)) ⟨by decide +kernel, by decide +kernel, by decide +kernel⟩ ⟨(Nat.le_of_ble_eq_true rfl), (Nat.le_of_ble_eq_true rfl)⟩, hC.2.1 (Cond.static yL_below) (gw_t (tb3 (List.mem_of_getElem? (i := 175) rfl)) rfl)⟩ rfl rfl (Nat.le_of_ble_eq_true rfl) dX9_init_104 ⟨(Nat.le_of_ble_eq_true rfl), (Nat.le_of_ble_eq_true rfl)⟩) (fun r u H locs hp hP hD hS => ?_)
  obtain ⟨j5, hj5, rfl⟩ := hp
  have hP : va_P D vwCl ([(h, .inr (11, [.int (nI (2 + j1)), .int (nI j2), .int (nI (1 + j3)), .int (nI (1 + j4)), .int 0, .int 0, .int 0, .int 0, .int 0, .ref g, .int 0])), (g, .inl (Y.2.2.1.2, 100, .inr (.inr (.inr (.inr fg)))))]) H := hP
  have hD : va_D A ([(h, .inr (11, [.int (nI (2 + j1)), .int (nI j2), .int (nI (1 + j3)), .int (nI (1 + j4)), .int 0, .int 0, .int 0, .int 0, .int 0, .ref g, .int 0])), (g, .inl (Y.2.2.1.2, 100, .inr (.inr (.inr (.inr fg)))))]) := hD
  refine lv_iadd hx hb dX9_init_107 ?_
  refine lv_topi (fun x14 ex14 => ?_)
  have ex14 : x14 = nI (1 + j5) := ex14.trans (nI_add 1 _)
  subst ex14
  refine n_putF hC hb hP hD hS inGX9 tyX9 tyX9_ok nmX9 0 rfl rfl 4 (by decide) (gw_t (tb3 (List.mem_of_getElem? (i := 206) rfl)) rfl) rfl rfl hin rfl rfl rfl rfl (Nat.le_of_ble_eq_true rfl) dX9_init_108 (fun H locs hP hD hS => ?_)
  have hP : va_P D vwCl ([(h, .inr (11, [.int (nI (2 + j1)), .int (nI j2), .int (nI (1 + j3)), .int (nI (1 + j4)), .int (nI (1 + j5)), .int 0, .int 0, .int 0, .int 0, .ref g, .int 0])), (g, .inl (Y.2.2.1.2, 100, .inr (.inr (.inr (.inr fg)))))]) H := hP
  have hD : va_D A ([(h, .inr (11, [.int (nI (2 + j1)), .int (nI j2), .int (nI (1 + j3)), .int (nI (1 + j4)), .int (nI (1 + j5)), .int 0, .int 0, .int 0, .int 0, .ref g, .int 0])), (g, .inl (Y.2.2.1.2, 100, .inr (.inr (.inr (.inr fg)))))]) := hD
  refine lv_aload_n hx hb dX9_init_111 rfl (lv_at hl 0 rfl) ?_
  refine lv_aload_n hx hb dX9_init_112 rfl (lv_at hl 1 rfl) ?_
  refine lv_iload_n hx hb dX9_init_113 rfl (lv_at hl 2 rfl) ?_
  refine lv_iconst (v := 2) hx hb dX9_init_114 (by decide) ?_
  refine lv_iadd hx hb dX9_init_115 ?_
  refine lv_topi (fun x15 ex15 => ?_)
  have ex15 : x15 = nI 2 := ex15.trans (rfl)
  subst ex15
  refine g_i (Rs := [(h, .inr (11, [.int (nI (2 + j1)), .int (nI j2), .int (nI (1 + j3)), .int (nI (1 + j4)), .int (nI (1 + j5)), .int 0, .int 0, .int 0, .int 0, .ref g, .int 0])), (g, .inl (Y.2.2.1.2, 100, .inr (.inr (.inr (.inr fg)))))]) (C0 := []) (As := [.ref b, .int (nI 2)]) hF hP hD hS SCR_ok (X_at (Rs := [(h, .inr (11, [.int (nI (2 + j1)), .int (nI j2), .int (nI (1 + j3)), .int (nI (1 + j4)), .int (nI (1 + j5)), .int 0, .int 0, .int 0, .int 0, .ref g, .int 0])), (g, .inl (Y.2.2.1.2, 100, .inr (.inr (.inr (.inr fg)))))]) (C0 := []) SCR_ok hF hX hD hS) (rSN (As := [.ref b, .int (nI 2)]) (rest := [.ref h]) hF hl (c_L_cell (kx := 2) hL (by decide) _) ⟨va_cnB 2 hC.2.1 (gi_law (gw_t (tb3 (List.mem_of_getElem? (i := 172) rfl)) rfl)) rfl rfl rfl (hC.2.2.2.2.1 (Cond.methodLinkNest RX9 14 yL_cell "MarkovBenchLaw") (List.mem_of_getElem? (i := 52) rfl)) (hC.2.1 (Cond.initialized RL) (gw_t (tb1 (List.mem_of_getElem? (i := 0) rfl)) rfl)) ⟨by decide +kernel, by decide +kernel, by decide +kernel⟩ ⟨(Nat.le_of_ble_eq_true rfl), (Nat.le_of_ble_eq_true rfl)⟩, hC.2.1 (Cond.static yL_cell) (gw_t (tb3 (List.mem_of_getElem? (i := 171) rfl)) rfl)⟩ rfl rfl (Nat.le_of_ble_eq_true rfl) dX9_init_116 ⟨(Nat.le_of_ble_eq_true rfl), (Nat.le_of_ble_eq_true rfl)⟩) (fun w6 u H locs hp hP hD hS => ?_)
  have hP : va_P D vwCl ([(h, .inr (11, [.int (nI (2 + j1)), .int (nI j2), .int (nI (1 + j3)), .int (nI (1 + j4)), .int (nI (1 + j5)), .int 0, .int 0, .int 0, .int 0, .ref g, .int 0])), (g, .inl (Y.2.2.1.2, 100, .inr (.inr (.inr (.inr fg)))))]) H := hP
  have hD : va_D A ([(h, .inr (11, [.int (nI (2 + j1)), .int (nI j2), .int (nI (1 + j3)), .int (nI (1 + j4)), .int (nI (1 + j5)), .int 0, .int 0, .int 0, .int 0, .ref g, .int 0])), (g, .inl (Y.2.2.1.2, 100, .inr (.inr (.inr (.inr fg)))))]) := hD
  refine lv_iconst (v := 3) hx hb dX9_init_119 (by decide) ?_
  refine lv_ishr hx hb dX9_init_120 ?_
  refine lv_bipush (v := 40) hx hb dX9_init_121 (by decide) ?_
  refine lv_topi (fun x16 ex16 => ?_)
  have ex16 : x16 = nI 40 := ex16.trans (rfl)
  subst ex16
  refine g_i (Rs := [(h, .inr (11, [.int (nI (2 + j1)), .int (nI j2), .int (nI (1 + j3)), .int (nI (1 + j4)), .int (nI (1 + j5)), .int 0, .int 0, .int 0, .int 0, .ref g, .int 0])), (g, .inl (Y.2.2.1.2, 100, .inr (.inr (.inr (.inr fg)))))]) (C0 := []) (As := [.int (w6 >>> (3 &&& 31)), .int (nI (40))]) hF hP hD hS XN_ok trivial (rSN (As := [.int (w6 >>> (3 &&& 31)), .int (nI (40))]) (rest := [.ref h]) hF hl (c_L_below (k1 := 40) (by decide) (by decide) _) ⟨va_cnB 2 hC.2.1 (gi_law (gw_t (tb3 (List.mem_of_getElem? (i := 176) rfl)) rfl)) rfl rfl rfl (hC.2.2.2.2.1 (Cond.methodLinkNest RX9 20 yL_below "MarkovBenchLaw") (List.mem_of_getElem? (i := 53) rfl)) (hC.2.1 (Cond.initialized RL) (gw_t (tb1 (List.mem_of_getElem? (i := 0) rfl)) rfl)) ⟨by decide +kernel, by decide +kernel, by decide +kernel⟩ ⟨(Nat.le_of_ble_eq_true rfl), (Nat.le_of_ble_eq_true rfl)⟩, hC.2.1 (Cond.static yL_below) (gw_t (tb3 (List.mem_of_getElem? (i := 175) rfl)) rfl)⟩ rfl rfl (Nat.le_of_ble_eq_true rfl) dX9_init_123 ⟨(Nat.le_of_ble_eq_true rfl), (Nat.le_of_ble_eq_true rfl)⟩) (fun r u H locs hp hP hD hS => ?_)
  obtain ⟨j6, hj6, rfl⟩ := hp
  have hP : va_P D vwCl ([(h, .inr (11, [.int (nI (2 + j1)), .int (nI j2), .int (nI (1 + j3)), .int (nI (1 + j4)), .int (nI (1 + j5)), .int 0, .int 0, .int 0, .int 0, .ref g, .int 0])), (g, .inl (Y.2.2.1.2, 100, .inr (.inr (.inr (.inr fg)))))]) H := hP
  have hD : va_D A ([(h, .inr (11, [.int (nI (2 + j1)), .int (nI j2), .int (nI (1 + j3)), .int (nI (1 + j4)), .int (nI (1 + j5)), .int 0, .int 0, .int 0, .int 0, .ref g, .int 0])), (g, .inl (Y.2.2.1.2, 100, .inr (.inr (.inr (.inr fg)))))]) := hD
  refine lv_bipush (v := 20) hx hb dX9_init_126 (by decide) ?_
  refine lv_isub hx hb dX9_init_128 ?_
  refine lv_topi (fun x17 ex17 => ?_)
  have ex17 : x17 = nI j6 - 20 := ex17.trans (rfl)
  subst ex17
  refine n_putF hC hb hP hD hS inGX9 tyX9 tyX9_ok nmX9 0 rfl rfl 5 (by decide) (gw_t (tb3 (List.mem_of_getElem? (i := 207) rfl)) rfl) rfl rfl hin rfl rfl rfl rfl (Nat.le_of_ble_eq_true rfl) dX9_init_129 (fun H locs hP hD hS => ?_)
  have hP : va_P D vwCl ([(h, .inr (11, [.int (nI (2 + j1)), .int (nI j2), .int (nI (1 + j3)), .int (nI (1 + j4)), .int (nI (1 + j5)), .int (nI j6 - 20), .int 0, .int 0, .int 0, .ref g, .int 0])), (g, .inl (Y.2.2.1.2, 100, .inr (.inr (.inr (.inr fg)))))]) H := hP
  have hD : va_D A ([(h, .inr (11, [.int (nI (2 + j1)), .int (nI j2), .int (nI (1 + j3)), .int (nI (1 + j4)), .int (nI (1 + j5)), .int (nI j6 - 20), .int 0, .int 0, .int 0, .ref g, .int 0])), (g, .inl (Y.2.2.1.2, 100, .inr (.inr (.inr (.inr fg)))))]) := hD
  refine lv_aload_n hx hb dX9_init_132 rfl (lv_at hl 0 rfl) ?_
  refine lv_aload_n hx hb dX9_init_133 rfl (lv_at hl 1 rfl) ?_
  refine lv_iload_n hx hb dX9_init_134 rfl (lv_at hl 2 rfl) ?_
  refine lv_iconst (v := 2) hx hb dX9_init_135 (by decide) ?_
  refine lv_iadd hx hb dX9_init_136 ?_
  refine lv_topi (fun x18 ex18 => ?_)
  have ex18 : x18 = nI 2 := ex18.trans (rfl)
  subst ex18
  refine g_i (Rs := [(h, .inr (11, [.int (nI (2 + j1)), .int (nI j2), .int (nI (1 + j3)), .int (nI (1 + j4)), .int (nI (1 + j5)), .int (nI j6 - 20), .int 0, .int 0, .int 0, .ref g, .int 0])), (g, .inl (Y.2.2.1.2, 100, .inr (.inr (.inr (.inr fg)))))]) (C0 := []) (As := [.ref b, .int (nI 2)]) hF hP hD hS SCR_ok (X_at (Rs := [(h, .inr (11, [.int (nI (2 + j1)), .int (nI j2), .int (nI (1 + j3)), .int (nI (1 + j4)), .int (nI (1 + j5)), .int (nI j6 - 20), .int 0, .int 0, .int 0, .ref g, .int 0])), (g, .inl (Y.2.2.1.2, 100, .inr (.inr (.inr (.inr fg)))))]) (C0 := []) SCR_ok hF hX hD hS) (rSN (As := [.ref b, .int (nI 2)]) (rest := [.ref h]) hF hl (c_L_cell (kx := 2) hL (by decide) _) ⟨va_cnB 2 hC.2.1 (gi_law (gw_t (tb3 (List.mem_of_getElem? (i := 172) rfl)) rfl)) rfl rfl rfl (hC.2.2.2.2.1 (Cond.methodLinkNest RX9 14 yL_cell "MarkovBenchLaw") (List.mem_of_getElem? (i := 52) rfl)) (hC.2.1 (Cond.initialized RL) (gw_t (tb1 (List.mem_of_getElem? (i := 0) rfl)) rfl)) ⟨by decide +kernel, by decide +kernel, by decide +kernel⟩ ⟨(Nat.le_of_ble_eq_true rfl), (Nat.le_of_ble_eq_true rfl)⟩, hC.2.1 (Cond.static yL_cell) (gw_t (tb3 (List.mem_of_getElem? (i := 171) rfl)) rfl)⟩ rfl rfl (Nat.le_of_ble_eq_true rfl) dX9_init_137 ⟨(Nat.le_of_ble_eq_true rfl), (Nat.le_of_ble_eq_true rfl)⟩) (fun w7 u H locs hp hP hD hS => ?_)
  have hP : va_P D vwCl ([(h, .inr (11, [.int (nI (2 + j1)), .int (nI j2), .int (nI (1 + j3)), .int (nI (1 + j4)), .int (nI (1 + j5)), .int (nI j6 - 20), .int 0, .int 0, .int 0, .ref g, .int 0])), (g, .inl (Y.2.2.1.2, 100, .inr (.inr (.inr (.inr fg)))))]) H := hP
  have hD : va_D A ([(h, .inr (11, [.int (nI (2 + j1)), .int (nI j2), .int (nI (1 + j3)), .int (nI (1 + j4)), .int (nI (1 + j5)), .int (nI j6 - 20), .int 0, .int 0, .int 0, .ref g, .int 0])), (g, .inl (Y.2.2.1.2, 100, .inr (.inr (.inr (.inr fg)))))]) := hD
  refine lv_bipush (v := 6) hx hb dX9_init_140 (by decide) ?_
  refine lv_ishr hx hb dX9_init_142 ?_
  refine lv_bipush (v := 9) hx hb dX9_init_143 (by decide) ?_
  refine lv_topi (fun x19 ex19 => ?_)
  have ex19 : x19 = nI 9 := ex19.trans (rfl)
  subst ex19
  refine g_i (Rs := [(h, .inr (11, [.int (nI (2 + j1)), .int (nI j2), .int (nI (1 + j3)), .int (nI (1 + j4)), .int (nI (1 + j5)), .int (nI j6 - 20), .int 0, .int 0, .int 0, .ref g, .int 0])), (g, .inl (Y.2.2.1.2, 100, .inr (.inr (.inr (.inr fg)))))]) (C0 := []) (As := [.int (w7 >>> (6 &&& 31)), .int (nI (9))]) hF hP hD hS XN_ok trivial (rSN (As := [.int (w7 >>> (6 &&& 31)), .int (nI (9))]) (rest := [.ref h]) hF hl (c_L_below (k1 := 9) (by decide) (by decide) _) ⟨va_cnB 2 hC.2.1 (gi_law (gw_t (tb3 (List.mem_of_getElem? (i := 176) rfl)) rfl)) rfl rfl rfl (hC.2.2.2.2.1 (Cond.methodLinkNest RX9 20 yL_below "MarkovBenchLaw") (List.mem_of_getElem? (i := 53) rfl)) (hC.2.1 (Cond.initialized RL) (gw_t (tb1 (List.mem_of_getElem? (i := 0) rfl)) rfl)) ⟨by decide +kernel, by decide +kernel, by decide +kernel⟩ ⟨(Nat.le_of_ble_eq_true rfl), (Nat.le_of_ble_eq_true rfl)⟩, hC.2.1 (Cond.static yL_below) (gw_t (tb3 (List.mem_of_getElem? (i := 175) rfl)) rfl)⟩ rfl rfl (Nat.le_of_ble_eq_true rfl) dX9_init_145 ⟨(Nat.le_of_ble_eq_true rfl), (Nat.le_of_ble_eq_true rfl)⟩) (fun r u H locs hp hP hD hS => ?_)
  obtain ⟨j7, hj7, rfl⟩ := hp
  have hP : va_P D vwCl ([(h, .inr (11, [.int (nI (2 + j1)), .int (nI j2), .int (nI (1 + j3)), .int (nI (1 + j4)), .int (nI (1 + j5)), .int (nI j6 - 20), .int 0, .int 0, .int 0, .ref g, .int 0])), (g, .inl (Y.2.2.1.2, 100, .inr (.inr (.inr (.inr fg)))))]) H := hP
  have hD : va_D A ([(h, .inr (11, [.int (nI (2 + j1)), .int (nI j2), .int (nI (1 + j3)), .int (nI (1 + j4)), .int (nI (1 + j5)), .int (nI j6 - 20), .int 0, .int 0, .int 0, .ref g, .int 0])), (g, .inl (Y.2.2.1.2, 100, .inr (.inr (.inr (.inr fg)))))]) := hD
  refine n_putF hC hb hP hD hS inGX9 tyX9 tyX9_ok nmX9 0 rfl rfl 6 (by decide) (gw_t (tb3 (List.mem_of_getElem? (i := 208) rfl)) rfl) rfl rfl hin rfl rfl rfl rfl (Nat.le_of_ble_eq_true rfl) dX9_init_148 (fun H locs hP hD hS => ?_)
  have hP : va_P D vwCl ([(h, .inr (11, [.int (nI (2 + j1)), .int (nI j2), .int (nI (1 + j3)), .int (nI (1 + j4)), .int (nI (1 + j5)), .int (nI j6 - 20), .int (nI j7), .int 0, .int 0, .ref g, .int 0])), (g, .inl (Y.2.2.1.2, 100, .inr (.inr (.inr (.inr fg)))))]) H := hP
  have hD : va_D A ([(h, .inr (11, [.int (nI (2 + j1)), .int (nI j2), .int (nI (1 + j3)), .int (nI (1 + j4)), .int (nI (1 + j5)), .int (nI j6 - 20), .int (nI j7), .int 0, .int 0, .ref g, .int 0])), (g, .inl (Y.2.2.1.2, 100, .inr (.inr (.inr (.inr fg)))))]) := hD
  refine lv_aload_n hx hb dX9_init_151 rfl (lv_at hl 0 rfl) ?_
  refine lv_aload_n hx hb dX9_init_152 rfl (lv_at hl 1 rfl) ?_
  refine lv_iload_n hx hb dX9_init_153 rfl (lv_at hl 2 rfl) ?_
  refine lv_iconst (v := 3) hx hb dX9_init_154 (by decide) ?_
  refine lv_iadd hx hb dX9_init_155 ?_
  refine lv_topi (fun x20 ex20 => ?_)
  have ex20 : x20 = nI 3 := ex20.trans (rfl)
  subst ex20
  refine g_i (Rs := [(h, .inr (11, [.int (nI (2 + j1)), .int (nI j2), .int (nI (1 + j3)), .int (nI (1 + j4)), .int (nI (1 + j5)), .int (nI j6 - 20), .int (nI j7), .int 0, .int 0, .ref g, .int 0])), (g, .inl (Y.2.2.1.2, 100, .inr (.inr (.inr (.inr fg)))))]) (C0 := []) (As := [.ref b, .int (nI 3)]) hF hP hD hS SCR_ok (X_at (Rs := [(h, .inr (11, [.int (nI (2 + j1)), .int (nI j2), .int (nI (1 + j3)), .int (nI (1 + j4)), .int (nI (1 + j5)), .int (nI j6 - 20), .int (nI j7), .int 0, .int 0, .ref g, .int 0])), (g, .inl (Y.2.2.1.2, 100, .inr (.inr (.inr (.inr fg)))))]) (C0 := []) SCR_ok hF hX hD hS) (rSN (As := [.ref b, .int (nI 3)]) (rest := [.ref h]) hF hl (c_L_cell (kx := 3) hL (by decide) _) ⟨va_cnB 2 hC.2.1 (gi_law (gw_t (tb3 (List.mem_of_getElem? (i := 172) rfl)) rfl)) rfl rfl rfl (hC.2.2.2.2.1 (Cond.methodLinkNest RX9 14 yL_cell "MarkovBenchLaw") (List.mem_of_getElem? (i := 52) rfl)) (hC.2.1 (Cond.initialized RL) (gw_t (tb1 (List.mem_of_getElem? (i := 0) rfl)) rfl)) ⟨by decide +kernel, by decide +kernel, by decide +kernel⟩ ⟨(Nat.le_of_ble_eq_true rfl), (Nat.le_of_ble_eq_true rfl)⟩, hC.2.1 (Cond.static yL_cell) (gw_t (tb3 (List.mem_of_getElem? (i := 171) rfl)) rfl)⟩ rfl rfl (Nat.le_of_ble_eq_true rfl) dX9_init_156 ⟨(Nat.le_of_ble_eq_true rfl), (Nat.le_of_ble_eq_true rfl)⟩) (fun w8 u H locs hp hP hD hS => ?_)
  have hP : va_P D vwCl ([(h, .inr (11, [.int (nI (2 + j1)), .int (nI j2), .int (nI (1 + j3)), .int (nI (1 + j4)), .int (nI (1 + j5)), .int (nI j6 - 20), .int (nI j7), .int 0, .int 0, .ref g, .int 0])), (g, .inl (Y.2.2.1.2, 100, .inr (.inr (.inr (.inr fg)))))]) H := hP
  have hD : va_D A ([(h, .inr (11, [.int (nI (2 + j1)), .int (nI j2), .int (nI (1 + j3)), .int (nI (1 + j4)), .int (nI (1 + j5)), .int (nI j6 - 20), .int (nI j7), .int 0, .int 0, .ref g, .int 0])), (g, .inl (Y.2.2.1.2, 100, .inr (.inr (.inr (.inr fg)))))]) := hD
  refine lv_iconst (v := 3) hx hb dX9_init_159 (by decide) ?_
  refine lv_topi (fun x21 ex21 => ?_)
  have ex21 : x21 = nI 3 := ex21.trans (rfl)
  subst ex21
  refine g_i (Rs := [(h, .inr (11, [.int (nI (2 + j1)), .int (nI j2), .int (nI (1 + j3)), .int (nI (1 + j4)), .int (nI (1 + j5)), .int (nI j6 - 20), .int (nI j7), .int 0, .int 0, .ref g, .int 0])), (g, .inl (Y.2.2.1.2, 100, .inr (.inr (.inr (.inr fg)))))]) (C0 := []) (As := [.int w8, .int (nI (3))]) hF hP hD hS XN_ok trivial (rSN (As := [.int w8, .int (nI (3))]) (rest := [.ref h]) hF hl (c_L_below (k1 := 3) (by decide) (by decide) _) ⟨va_cnB 2 hC.2.1 (gi_law (gw_t (tb3 (List.mem_of_getElem? (i := 176) rfl)) rfl)) rfl rfl rfl (hC.2.2.2.2.1 (Cond.methodLinkNest RX9 20 yL_below "MarkovBenchLaw") (List.mem_of_getElem? (i := 53) rfl)) (hC.2.1 (Cond.initialized RL) (gw_t (tb1 (List.mem_of_getElem? (i := 0) rfl)) rfl)) ⟨by decide +kernel, by decide +kernel, by decide +kernel⟩ ⟨(Nat.le_of_ble_eq_true rfl), (Nat.le_of_ble_eq_true rfl)⟩, hC.2.1 (Cond.static yL_below) (gw_t (tb3 (List.mem_of_getElem? (i := 175) rfl)) rfl)⟩ rfl rfl (Nat.le_of_ble_eq_true rfl) dX9_init_160 ⟨(Nat.le_of_ble_eq_true rfl), (Nat.le_of_ble_eq_true rfl)⟩) (fun r u H locs hp hP hD hS => ?_)
  obtain ⟨j8, hj8, rfl⟩ := hp
  have hP : va_P D vwCl ([(h, .inr (11, [.int (nI (2 + j1)), .int (nI j2), .int (nI (1 + j3)), .int (nI (1 + j4)), .int (nI (1 + j5)), .int (nI j6 - 20), .int (nI j7), .int 0, .int 0, .ref g, .int 0])), (g, .inl (Y.2.2.1.2, 100, .inr (.inr (.inr (.inr fg)))))]) H := hP
  have hD : va_D A ([(h, .inr (11, [.int (nI (2 + j1)), .int (nI j2), .int (nI (1 + j3)), .int (nI (1 + j4)), .int (nI (1 + j5)), .int (nI j6 - 20), .int (nI j7), .int 0, .int 0, .ref g, .int 0])), (g, .inl (Y.2.2.1.2, 100, .inr (.inr (.inr (.inr fg)))))]) := hD
  refine lv_if_ne (tgt := 170) hx hb dX9_init_163 (by decide) (fun c22 => ?_) (fun c22 => ?_)
  · refine lv_aload_n hx hb dX9_init_170 rfl (lv_at hl 1 rfl) ?_
    refine lv_iload_n hx hb dX9_init_171 rfl (lv_at hl 2 rfl) ?_
    refine lv_iconst (v := 3) hx hb dX9_init_172 (by decide) ?_
    refine lv_iadd hx hb dX9_init_173 ?_
    refine lv_topi (fun x23 ex23 => ?_)
    have ex23 : x23 = nI 3 := ex23.trans (rfl)
    subst ex23
    refine g_i (Rs := [(h, .inr (11, [.int (nI (2 + j1)), .int (nI j2), .int (nI (1 + j3)), .int (nI (1 + j4)), .int (nI (1 + j5)), .int (nI j6 - 20), .int (nI j7), .int 0, .int 0, .ref g, .int 0])), (g, .inl (Y.2.2.1.2, 100, .inr (.inr (.inr (.inr fg)))))]) (C0 := []) (As := [.ref b, .int (nI 3)]) hF hP hD hS SCR_ok (X_at (Rs := [(h, .inr (11, [.int (nI (2 + j1)), .int (nI j2), .int (nI (1 + j3)), .int (nI (1 + j4)), .int (nI (1 + j5)), .int (nI j6 - 20), .int (nI j7), .int 0, .int 0, .ref g, .int 0])), (g, .inl (Y.2.2.1.2, 100, .inr (.inr (.inr (.inr fg)))))]) (C0 := []) SCR_ok hF hX hD hS) (rSN (As := [.ref b, .int (nI 3)]) (rest := [.ref h]) hF hl (c_L_cell (kx := 3) hL (by decide) _) ⟨va_cnB 2 hC.2.1 (gi_law (gw_t (tb3 (List.mem_of_getElem? (i := 172) rfl)) rfl)) rfl rfl rfl (hC.2.2.2.2.1 (Cond.methodLinkNest RX9 14 yL_cell "MarkovBenchLaw") (List.mem_of_getElem? (i := 52) rfl)) (hC.2.1 (Cond.initialized RL) (gw_t (tb1 (List.mem_of_getElem? (i := 0) rfl)) rfl)) ⟨by decide +kernel, by decide +kernel, by decide +kernel⟩ ⟨(Nat.le_of_ble_eq_true rfl), (Nat.le_of_ble_eq_true rfl)⟩, hC.2.1 (Cond.static yL_cell) (gw_t (tb3 (List.mem_of_getElem? (i := 171) rfl)) rfl)⟩ rfl rfl (Nat.le_of_ble_eq_true rfl) dX9_init_174 ⟨(Nat.le_of_ble_eq_true rfl), (Nat.le_of_ble_eq_true rfl)⟩) (fun w9 u H locs hp hP hD hS => ?_)
    have hP : va_P D vwCl ([(h, .inr (11, [.int (nI (2 + j1)), .int (nI j2), .int (nI (1 + j3)), .int (nI (1 + j4)), .int (nI (1 + j5)), .int (nI j6 - 20), .int (nI j7), .int 0, .int 0, .ref g, .int 0])), (g, .inl (Y.2.2.1.2, 100, .inr (.inr (.inr (.inr fg)))))]) H := hP
    have hD : va_D A ([(h, .inr (11, [.int (nI (2 + j1)), .int (nI j2), .int (nI (1 + j3)), .int (nI (1 + j4)), .int (nI (1 + j5)), .int (nI j6 - 20), .int (nI j7), .int 0, .int 0, .ref g, .int 0])), (g, .inl (Y.2.2.1.2, 100, .inr (.inr (.inr (.inr fg)))))]) := hD
    refine lv_iconst (v := 3) hx hb dX9_init_177 (by decide) ?_
    refine lv_ishr hx hb dX9_init_178 ?_
    refine lv_aload_n hx hb dX9_init_179 rfl (lv_at hl 0 rfl) ?_
    refine n_get hC hb hP inGX9 0 rfl rfl 0 (by decide) rfl (gw_t (tb3 (List.mem_of_getElem? (i := 202) rfl)) rfl) rfl dX9_init_180 ?_
    refine lv_iconst (v := 1) hx hb dX9_init_183 (by decide) ?_
    refine lv_iadd hx hb dX9_init_184 ?_
    refine lv_topi (fun x24 ex24 => ?_)
    have ex24 : x24 = nI (2 + j1 + 1) := ex24.trans (nI_1 _)
    subst ex24
    refine g_i (Rs := [(h, .inr (11, [.int (nI (2 + j1)), .int (nI j2), .int (nI (1 + j3)), .int (nI (1 + j4)), .int (nI (1 + j5)), .int (nI j6 - 20), .int (nI j7), .int 0, .int 0, .ref g, .int 0])), (g, .inl (Y.2.2.1.2, 100, .inr (.inr (.inr (.inr fg)))))]) (C0 := []) (As := [.int (w9 >>> (3 &&& 31)), .int (nI (2 + j1 + 1))]) hF hP hD hS XN_ok trivial (rSN (As := [.int (w9 >>> (3 &&& 31)), .int (nI (2 + j1 + 1))]) (rest := [.ref h]) hF hl (c_L_below (k1 := 2 + j1 + 1) (by omega) (by omega) _) ⟨va_cnB 2 hC.2.1 (gi_law (gw_t (tb3 (List.mem_of_getElem? (i := 176) rfl)) rfl)) rfl rfl rfl (hC.2.2.2.2.1 (Cond.methodLinkNest RX9 20 yL_below "MarkovBenchLaw") (List.mem_of_getElem? (i := 53) rfl)) (hC.2.1 (Cond.initialized RL) (gw_t (tb1 (List.mem_of_getElem? (i := 0) rfl)) rfl)) ⟨by decide +kernel, by decide +kernel, by decide +kernel⟩ ⟨(Nat.le_of_ble_eq_true rfl), (Nat.le_of_ble_eq_true rfl)⟩, hC.2.1 (Cond.static yL_below) (gw_t (tb3 (List.mem_of_getElem? (i := 175) rfl)) rfl)⟩ rfl rfl (Nat.le_of_ble_eq_true rfl) dX9_init_185 ⟨(Nat.le_of_ble_eq_true rfl), (Nat.le_of_ble_eq_true rfl)⟩) (fun r u H locs hp hP hD hS => ?_)
    obtain ⟨j9, hj9, rfl⟩ := hp
    have hP : va_P D vwCl ([(h, .inr (11, [.int (nI (2 + j1)), .int (nI j2), .int (nI (1 + j3)), .int (nI (1 + j4)), .int (nI (1 + j5)), .int (nI j6 - 20), .int (nI j7), .int 0, .int 0, .ref g, .int 0])), (g, .inl (Y.2.2.1.2, 100, .inr (.inr (.inr (.inr fg)))))]) H := hP
    have hD : va_D A ([(h, .inr (11, [.int (nI (2 + j1)), .int (nI j2), .int (nI (1 + j3)), .int (nI (1 + j4)), .int (nI (1 + j5)), .int (nI j6 - 20), .int (nI j7), .int 0, .int 0, .ref g, .int 0])), (g, .inl (Y.2.2.1.2, 100, .inr (.inr (.inr (.inr fg)))))]) := hD
    refine n_putF hC hb hP hD hS inGX9 tyX9 tyX9_ok nmX9 0 rfl rfl 7 (by decide) (gw_t (tb3 (List.mem_of_getElem? (i := 209) rfl)) rfl) rfl rfl hin rfl rfl rfl rfl (Nat.le_of_ble_eq_true rfl) dX9_init_188 (fun H locs hP hD hS => ?_)
    have hP : va_P D vwCl ([(h, .inr (11, [.int (nI (2 + j1)), .int (nI j2), .int (nI (1 + j3)), .int (nI (1 + j4)), .int (nI (1 + j5)), .int (nI j6 - 20), .int (nI j7), .int (nI j9), .int 0, .ref g, .int 0])), (g, .inl (Y.2.2.1.2, 100, .inr (.inr (.inr (.inr fg)))))]) H := hP
    have hD : va_D A ([(h, .inr (11, [.int (nI (2 + j1)), .int (nI j2), .int (nI (1 + j3)), .int (nI (1 + j4)), .int (nI (1 + j5)), .int (nI j6 - 20), .int (nI j7), .int (nI j9), .int 0, .ref g, .int 0])), (g, .inl (Y.2.2.1.2, 100, .inr (.inr (.inr (.inr fg)))))]) := hD
    refine lv_aload_n hx hb dX9_init_191 rfl (lv_at hl 0 rfl) ?_
    refine lv_iconst (v := 1) hx hb dX9_init_192 (by decide) ?_
    refine lv_aload_n hx hb dX9_init_193 rfl (lv_at hl 1 rfl) ?_
    refine lv_iload_n hx hb dX9_init_194 rfl (lv_at hl 2 rfl) ?_
    refine lv_iconst (v := 3) hx hb dX9_init_195 (by decide) ?_
    refine lv_iadd hx hb dX9_init_196 ?_
    refine lv_topi (fun x25 ex25 => ?_)
    have ex25 : x25 = nI 3 := ex25.trans (rfl)
    subst ex25
    refine g_i (Rs := [(h, .inr (11, [.int (nI (2 + j1)), .int (nI j2), .int (nI (1 + j3)), .int (nI (1 + j4)), .int (nI (1 + j5)), .int (nI j6 - 20), .int (nI j7), .int (nI j9), .int 0, .ref g, .int 0])), (g, .inl (Y.2.2.1.2, 100, .inr (.inr (.inr (.inr fg)))))]) (C0 := []) (As := [.ref b, .int (nI 3)]) hF hP hD hS SCR_ok (X_at (Rs := [(h, .inr (11, [.int (nI (2 + j1)), .int (nI j2), .int (nI (1 + j3)), .int (nI (1 + j4)), .int (nI (1 + j5)), .int (nI j6 - 20), .int (nI j7), .int (nI j9), .int 0, .ref g, .int 0])), (g, .inl (Y.2.2.1.2, 100, .inr (.inr (.inr (.inr fg)))))]) (C0 := []) SCR_ok hF hX hD hS) (rSN (As := [.ref b, .int (nI 3)]) (rest := [.int 1, .ref h]) hF hl (c_L_cell (kx := 3) hL (by decide) _) ⟨va_cnB 2 hC.2.1 (gi_law (gw_t (tb3 (List.mem_of_getElem? (i := 172) rfl)) rfl)) rfl rfl rfl (hC.2.2.2.2.1 (Cond.methodLinkNest RX9 14 yL_cell "MarkovBenchLaw") (List.mem_of_getElem? (i := 52) rfl)) (hC.2.1 (Cond.initialized RL) (gw_t (tb1 (List.mem_of_getElem? (i := 0) rfl)) rfl)) ⟨by decide +kernel, by decide +kernel, by decide +kernel⟩ ⟨(Nat.le_of_ble_eq_true rfl), (Nat.le_of_ble_eq_true rfl)⟩, hC.2.1 (Cond.static yL_cell) (gw_t (tb3 (List.mem_of_getElem? (i := 171) rfl)) rfl)⟩ rfl rfl (Nat.le_of_ble_eq_true rfl) dX9_init_197 ⟨(Nat.le_of_ble_eq_true rfl), (Nat.le_of_ble_eq_true rfl)⟩) (fun w10 u H locs hp hP hD hS => ?_)
    have hP : va_P D vwCl ([(h, .inr (11, [.int (nI (2 + j1)), .int (nI j2), .int (nI (1 + j3)), .int (nI (1 + j4)), .int (nI (1 + j5)), .int (nI j6 - 20), .int (nI j7), .int (nI j9), .int 0, .ref g, .int 0])), (g, .inl (Y.2.2.1.2, 100, .inr (.inr (.inr (.inr fg)))))]) H := hP
    have hD : va_D A ([(h, .inr (11, [.int (nI (2 + j1)), .int (nI j2), .int (nI (1 + j3)), .int (nI (1 + j4)), .int (nI (1 + j5)), .int (nI j6 - 20), .int (nI j7), .int (nI j9), .int 0, .ref g, .int 0])), (g, .inl (Y.2.2.1.2, 100, .inr (.inr (.inr (.inr fg)))))]) := hD
    refine lv_bipush (v := 6) hx hb dX9_init_200 (by decide) ?_
    refine lv_ishr hx hb dX9_init_202 ?_
    refine lv_aload_n hx hb dX9_init_203 rfl (lv_at hl 0 rfl) ?_
    refine n_get hC hb hP inGX9 0 rfl rfl 0 (by decide) rfl (gw_t (tb3 (List.mem_of_getElem? (i := 202) rfl)) rfl) rfl dX9_init_204 ?_
    refine g_i (Rs := [(h, .inr (11, [.int (nI (2 + j1)), .int (nI j2), .int (nI (1 + j3)), .int (nI (1 + j4)), .int (nI (1 + j5)), .int (nI j6 - 20), .int (nI j7), .int (nI j9), .int 0, .ref g, .int 0])), (g, .inl (Y.2.2.1.2, 100, .inr (.inr (.inr (.inr fg)))))]) (C0 := []) (As := [.int (w10 >>> (6 &&& 31)), .int (nI (2 + j1))]) hF hP hD hS XN_ok trivial (rSN (As := [.int (w10 >>> (6 &&& 31)), .int (nI (2 + j1))]) (rest := [.int 1, .ref h]) hF hl (c_L_below (k1 := 2 + j1) (by omega) (by omega) _) ⟨va_cnB 2 hC.2.1 (gi_law (gw_t (tb3 (List.mem_of_getElem? (i := 176) rfl)) rfl)) rfl rfl rfl (hC.2.2.2.2.1 (Cond.methodLinkNest RX9 20 yL_below "MarkovBenchLaw") (List.mem_of_getElem? (i := 53) rfl)) (hC.2.1 (Cond.initialized RL) (gw_t (tb1 (List.mem_of_getElem? (i := 0) rfl)) rfl)) ⟨by decide +kernel, by decide +kernel, by decide +kernel⟩ ⟨(Nat.le_of_ble_eq_true rfl), (Nat.le_of_ble_eq_true rfl)⟩, hC.2.1 (Cond.static yL_below) (gw_t (tb3 (List.mem_of_getElem? (i := 175) rfl)) rfl)⟩ rfl rfl (Nat.le_of_ble_eq_true rfl) dX9_init_207 ⟨(Nat.le_of_ble_eq_true rfl), (Nat.le_of_ble_eq_true rfl)⟩) (fun r u H locs hp hP hD hS => ?_)
    obtain ⟨j10, hj10, rfl⟩ := hp
    have hP : va_P D vwCl ([(h, .inr (11, [.int (nI (2 + j1)), .int (nI j2), .int (nI (1 + j3)), .int (nI (1 + j4)), .int (nI (1 + j5)), .int (nI j6 - 20), .int (nI j7), .int (nI j9), .int 0, .ref g, .int 0])), (g, .inl (Y.2.2.1.2, 100, .inr (.inr (.inr (.inr fg)))))]) H := hP
    have hD : va_D A ([(h, .inr (11, [.int (nI (2 + j1)), .int (nI j2), .int (nI (1 + j3)), .int (nI (1 + j4)), .int (nI (1 + j5)), .int (nI j6 - 20), .int (nI j7), .int (nI j9), .int 0, .ref g, .int 0])), (g, .inl (Y.2.2.1.2, 100, .inr (.inr (.inr (.inr fg)))))]) := hD
    refine lv_iadd hx hb dX9_init_210 ?_
    refine lv_topi (fun x26 ex26 => ?_)
    have ex26 : x26 = nI (1 + j10) := ex26.trans (nI_add 1 _)
    subst ex26
    refine n_putF hC hb hP hD hS inGX9 tyX9 tyX9_ok nmX9 0 rfl rfl 8 (by decide) (gw_t (tb3 (List.mem_of_getElem? (i := 210) rfl)) rfl) rfl rfl hin rfl rfl rfl rfl (Nat.le_of_ble_eq_true rfl) dX9_init_211 (fun H locs hP hD hS => ?_)
    have hP : va_P D vwCl ([(h, .inr (11, [.int (nI (2 + j1)), .int (nI j2), .int (nI (1 + j3)), .int (nI (1 + j4)), .int (nI (1 + j5)), .int (nI j6 - 20), .int (nI j7), .int (nI j9), .int (nI (1 + j10)), .ref g, .int 0])), (g, .inl (Y.2.2.1.2, 100, .inr (.inr (.inr (.inr fg)))))]) H := hP
    have hD : va_D A ([(h, .inr (11, [.int (nI (2 + j1)), .int (nI j2), .int (nI (1 + j3)), .int (nI (1 + j4)), .int (nI (1 + j5)), .int (nI j6 - 20), .int (nI j7), .int (nI j9), .int (nI (1 + j10)), .ref g, .int 0])), (g, .inl (Y.2.2.1.2, 100, .inr (.inr (.inr (.inr fg)))))]) := hD
    refine lv_aload_n hx hb dX9_init_214 rfl (lv_at hl 0 rfl) ?_
    have hWV : WKv (2 + j1) (1 + j5) (1 + j10) (fun i => [nI (2 + j1), nI j2, nI (1 + j3), nI (1 + j4), nI (1 + j5), nI j6 - 20, nI j7, nI j9, nI (1 + j10)].getD i 0) := ⟨rfl, rfl, rfl, by omega, by omega, by omega⟩
    have hP : va_P D vwCl (wkW Y h g (fun i => [nI (2 + j1), nI j2, nI (1 + j3), nI (1 + j4), nI (1 + j5), nI j6 - 20, nI j7, nI j9, nI (1 + j10)].getD i 0) fg []) H := hP
    have hD : va_D A (wkW Y h g (fun i => [nI (2 + j1), nI j2, nI (1 + j3), nI (1 + j4), nI (1 + j5), nI j6 - 20, nI j7, nI j9, nI (1 + j10)].getD i 0) fg []) := hD
    have hfi : ∃ fi, fi ≤ 2 + j1 ∧ (fun i => [nI (2 + j1), nI j2, nI (1 + j3), nI (1 + j4), nI (1 + j5), nI j6 - 20, nI j7, nI j9, nI (1 + j10)].getD i 0) 1 = nI fi := ⟨j2, by omega, rfl⟩
    refine g_v (Rs := []) (C0 := wkW Y h g (fun i => [nI (2 + j1), nI j2, nI (1 + j3), nI (1 + j4), nI (1 + j5), nI j6 - 20, nI j7, nI j9, nI (1 + j10)].getD i 0) fg []) (As := [.ref h]) hF hP hD hS XN_ok trivial (rV (As := []) (rest := []) hF hl (c_X9_explore hWV hfi _) (cwV 0 hC.2.1 (gi_V (gw_t (tb3 (List.mem_of_getElem? (i := 178) rfl)) rfl) (gw_t (tb3 (List.mem_of_getElem? (i := 179) rfl)) rfl) (gw_t (tb3 (List.mem_of_getElem? (i := 180) rfl)) rfl) (gw_t (tb1 (List.mem_of_getElem? (i := 10) rfl)) rfl) (gw_t (tb3 (List.mem_of_getElem? (i := 181) rfl)) rfl)) rfl rfl rfl ⟨rfl, by decide +kernel, by decide +kernel, by decide +kernel⟩ ⟨(Nat.le_of_ble_eq_true rfl), (Nat.le_of_ble_eq_true rfl)⟩) (va_recv hC.2.2.2.1 hP (q0 := 0) rfl rfl) rfl rfl (Nat.le_of_ble_eq_true rfl) dX9_init_215 ⟨(Nat.le_of_ble_eq_true rfl), (Nat.le_of_ble_eq_true rfl)⟩) (fun u H locs hp hP hD hS => ?_)
    refine g_vret ((fun i => [nI (2 + j1), nI j2, nI (1 + j3), nI (1 + j4), nI (1 + j5), nI j6 - 20, nI j7, nI j9, nI (1 + j10)].getD i 0), g, u) hF ?_ hP hD hS dX9_init_218 (Nat.le_of_ble_eq_true rfl) (Nat.le_of_ble_eq_true rfl)
    exact ⟨2 + j1, j2, 1 + j3, 1 + j4, 1 + j5, j6, j7, 1 + j10, some j9, rfl, rfl, rfl, rfl, rfl, rfl, rfl, rfl, rfl, by omega, by omega, by omega, by omega, by omega, by omega, by omega, by omega, by omega, fun g hg => by cases hg; omega⟩
  · refine lv_iconst (v := -1) hx hb dX9_init_166 (by decide) ?_
    refine lv_goto (tgt := 188) hx hb dX9_init_167 (by decide) ?_
    refine n_putF hC hb hP hD hS inGX9 tyX9 tyX9_ok nmX9 0 rfl rfl 7 (by decide) (gw_t (tb3 (List.mem_of_getElem? (i := 209) rfl)) rfl) rfl rfl hin rfl rfl rfl rfl (Nat.le_of_ble_eq_true rfl) dX9_init_188 (fun H locs hP hD hS => ?_)
    have hP : va_P D vwCl ([(h, .inr (11, [.int (nI (2 + j1)), .int (nI j2), .int (nI (1 + j3)), .int (nI (1 + j4)), .int (nI (1 + j5)), .int (nI j6 - 20), .int (nI j7), .int (-1), .int 0, .ref g, .int 0])), (g, .inl (Y.2.2.1.2, 100, .inr (.inr (.inr (.inr fg)))))]) H := hP
    have hD : va_D A ([(h, .inr (11, [.int (nI (2 + j1)), .int (nI j2), .int (nI (1 + j3)), .int (nI (1 + j4)), .int (nI (1 + j5)), .int (nI j6 - 20), .int (nI j7), .int (-1), .int 0, .ref g, .int 0])), (g, .inl (Y.2.2.1.2, 100, .inr (.inr (.inr (.inr fg)))))]) := hD
    refine lv_aload_n hx hb dX9_init_191 rfl (lv_at hl 0 rfl) ?_
    refine lv_iconst (v := 1) hx hb dX9_init_192 (by decide) ?_
    refine lv_aload_n hx hb dX9_init_193 rfl (lv_at hl 1 rfl) ?_
    refine lv_iload_n hx hb dX9_init_194 rfl (lv_at hl 2 rfl) ?_
    refine lv_iconst (v := 3) hx hb dX9_init_195 (by decide) ?_
    refine lv_iadd hx hb dX9_init_196 ?_
    refine lv_topi (fun x23 ex23 => ?_)
    have ex23 : x23 = nI 3 := ex23.trans (rfl)
    subst ex23
    refine g_i (Rs := [(h, .inr (11, [.int (nI (2 + j1)), .int (nI j2), .int (nI (1 + j3)), .int (nI (1 + j4)), .int (nI (1 + j5)), .int (nI j6 - 20), .int (nI j7), .int (-1), .int 0, .ref g, .int 0])), (g, .inl (Y.2.2.1.2, 100, .inr (.inr (.inr (.inr fg)))))]) (C0 := []) (As := [.ref b, .int (nI 3)]) hF hP hD hS SCR_ok (X_at (Rs := [(h, .inr (11, [.int (nI (2 + j1)), .int (nI j2), .int (nI (1 + j3)), .int (nI (1 + j4)), .int (nI (1 + j5)), .int (nI j6 - 20), .int (nI j7), .int (-1), .int 0, .ref g, .int 0])), (g, .inl (Y.2.2.1.2, 100, .inr (.inr (.inr (.inr fg)))))]) (C0 := []) SCR_ok hF hX hD hS) (rSN (As := [.ref b, .int (nI 3)]) (rest := [.int 1, .ref h]) hF hl (c_L_cell (kx := 3) hL (by decide) _) ⟨va_cnB 2 hC.2.1 (gi_law (gw_t (tb3 (List.mem_of_getElem? (i := 172) rfl)) rfl)) rfl rfl rfl (hC.2.2.2.2.1 (Cond.methodLinkNest RX9 14 yL_cell "MarkovBenchLaw") (List.mem_of_getElem? (i := 52) rfl)) (hC.2.1 (Cond.initialized RL) (gw_t (tb1 (List.mem_of_getElem? (i := 0) rfl)) rfl)) ⟨by decide +kernel, by decide +kernel, by decide +kernel⟩ ⟨(Nat.le_of_ble_eq_true rfl), (Nat.le_of_ble_eq_true rfl)⟩, hC.2.1 (Cond.static yL_cell) (gw_t (tb3 (List.mem_of_getElem? (i := 171) rfl)) rfl)⟩ rfl rfl (Nat.le_of_ble_eq_true rfl) dX9_init_197 ⟨(Nat.le_of_ble_eq_true rfl), (Nat.le_of_ble_eq_true rfl)⟩) (fun w11 u H locs hp hP hD hS => ?_)
    have hP : va_P D vwCl ([(h, .inr (11, [.int (nI (2 + j1)), .int (nI j2), .int (nI (1 + j3)), .int (nI (1 + j4)), .int (nI (1 + j5)), .int (nI j6 - 20), .int (nI j7), .int (-1), .int 0, .ref g, .int 0])), (g, .inl (Y.2.2.1.2, 100, .inr (.inr (.inr (.inr fg)))))]) H := hP
    have hD : va_D A ([(h, .inr (11, [.int (nI (2 + j1)), .int (nI j2), .int (nI (1 + j3)), .int (nI (1 + j4)), .int (nI (1 + j5)), .int (nI j6 - 20), .int (nI j7), .int (-1), .int 0, .ref g, .int 0])), (g, .inl (Y.2.2.1.2, 100, .inr (.inr (.inr (.inr fg)))))]) := hD
    refine lv_bipush (v := 6) hx hb dX9_init_200 (by decide) ?_
    refine lv_ishr hx hb dX9_init_202 ?_
    refine lv_aload_n hx hb dX9_init_203 rfl (lv_at hl 0 rfl) ?_
    refine n_get hC hb hP inGX9 0 rfl rfl 0 (by decide) rfl (gw_t (tb3 (List.mem_of_getElem? (i := 202) rfl)) rfl) rfl dX9_init_204 ?_
    refine g_i (Rs := [(h, .inr (11, [.int (nI (2 + j1)), .int (nI j2), .int (nI (1 + j3)), .int (nI (1 + j4)), .int (nI (1 + j5)), .int (nI j6 - 20), .int (nI j7), .int (-1), .int 0, .ref g, .int 0])), (g, .inl (Y.2.2.1.2, 100, .inr (.inr (.inr (.inr fg)))))]) (C0 := []) (As := [.int (w11 >>> (6 &&& 31)), .int (nI (2 + j1))]) hF hP hD hS XN_ok trivial (rSN (As := [.int (w11 >>> (6 &&& 31)), .int (nI (2 + j1))]) (rest := [.int 1, .ref h]) hF hl (c_L_below (k1 := 2 + j1) (by omega) (by omega) _) ⟨va_cnB 2 hC.2.1 (gi_law (gw_t (tb3 (List.mem_of_getElem? (i := 176) rfl)) rfl)) rfl rfl rfl (hC.2.2.2.2.1 (Cond.methodLinkNest RX9 20 yL_below "MarkovBenchLaw") (List.mem_of_getElem? (i := 53) rfl)) (hC.2.1 (Cond.initialized RL) (gw_t (tb1 (List.mem_of_getElem? (i := 0) rfl)) rfl)) ⟨by decide +kernel, by decide +kernel, by decide +kernel⟩ ⟨(Nat.le_of_ble_eq_true rfl), (Nat.le_of_ble_eq_true rfl)⟩, hC.2.1 (Cond.static yL_below) (gw_t (tb3 (List.mem_of_getElem? (i := 175) rfl)) rfl)⟩ rfl rfl (Nat.le_of_ble_eq_true rfl) dX9_init_207 ⟨(Nat.le_of_ble_eq_true rfl), (Nat.le_of_ble_eq_true rfl)⟩) (fun r u H locs hp hP hD hS => ?_)
    obtain ⟨j11, hj11, rfl⟩ := hp
    have hP : va_P D vwCl ([(h, .inr (11, [.int (nI (2 + j1)), .int (nI j2), .int (nI (1 + j3)), .int (nI (1 + j4)), .int (nI (1 + j5)), .int (nI j6 - 20), .int (nI j7), .int (-1), .int 0, .ref g, .int 0])), (g, .inl (Y.2.2.1.2, 100, .inr (.inr (.inr (.inr fg)))))]) H := hP
    have hD : va_D A ([(h, .inr (11, [.int (nI (2 + j1)), .int (nI j2), .int (nI (1 + j3)), .int (nI (1 + j4)), .int (nI (1 + j5)), .int (nI j6 - 20), .int (nI j7), .int (-1), .int 0, .ref g, .int 0])), (g, .inl (Y.2.2.1.2, 100, .inr (.inr (.inr (.inr fg)))))]) := hD
    refine lv_iadd hx hb dX9_init_210 ?_
    refine lv_topi (fun x24 ex24 => ?_)
    have ex24 : x24 = nI (1 + j11) := ex24.trans (nI_add 1 _)
    subst ex24
    refine n_putF hC hb hP hD hS inGX9 tyX9 tyX9_ok nmX9 0 rfl rfl 8 (by decide) (gw_t (tb3 (List.mem_of_getElem? (i := 210) rfl)) rfl) rfl rfl hin rfl rfl rfl rfl (Nat.le_of_ble_eq_true rfl) dX9_init_211 (fun H locs hP hD hS => ?_)
    have hP : va_P D vwCl ([(h, .inr (11, [.int (nI (2 + j1)), .int (nI j2), .int (nI (1 + j3)), .int (nI (1 + j4)), .int (nI (1 + j5)), .int (nI j6 - 20), .int (nI j7), .int (-1), .int (nI (1 + j11)), .ref g, .int 0])), (g, .inl (Y.2.2.1.2, 100, .inr (.inr (.inr (.inr fg)))))]) H := hP
    have hD : va_D A ([(h, .inr (11, [.int (nI (2 + j1)), .int (nI j2), .int (nI (1 + j3)), .int (nI (1 + j4)), .int (nI (1 + j5)), .int (nI j6 - 20), .int (nI j7), .int (-1), .int (nI (1 + j11)), .ref g, .int 0])), (g, .inl (Y.2.2.1.2, 100, .inr (.inr (.inr (.inr fg)))))]) := hD
    refine lv_aload_n hx hb dX9_init_214 rfl (lv_at hl 0 rfl) ?_
    have hWV : WKv (2 + j1) (1 + j5) (1 + j11) (fun i => [nI (2 + j1), nI j2, nI (1 + j3), nI (1 + j4), nI (1 + j5), nI j6 - 20, nI j7, -1, nI (1 + j11)].getD i 0) := ⟨rfl, rfl, rfl, by omega, by omega, by omega⟩
    have hP : va_P D vwCl (wkW Y h g (fun i => [nI (2 + j1), nI j2, nI (1 + j3), nI (1 + j4), nI (1 + j5), nI j6 - 20, nI j7, -1, nI (1 + j11)].getD i 0) fg []) H := hP
    have hD : va_D A (wkW Y h g (fun i => [nI (2 + j1), nI j2, nI (1 + j3), nI (1 + j4), nI (1 + j5), nI j6 - 20, nI j7, -1, nI (1 + j11)].getD i 0) fg []) := hD
    have hfi : ∃ fi, fi ≤ 2 + j1 ∧ (fun i => [nI (2 + j1), nI j2, nI (1 + j3), nI (1 + j4), nI (1 + j5), nI j6 - 20, nI j7, -1, nI (1 + j11)].getD i 0) 1 = nI fi := ⟨j2, by omega, rfl⟩
    refine g_v (Rs := []) (C0 := wkW Y h g (fun i => [nI (2 + j1), nI j2, nI (1 + j3), nI (1 + j4), nI (1 + j5), nI j6 - 20, nI j7, -1, nI (1 + j11)].getD i 0) fg []) (As := [.ref h]) hF hP hD hS XN_ok trivial (rV (As := []) (rest := []) hF hl (c_X9_explore hWV hfi _) (cwV 0 hC.2.1 (gi_V (gw_t (tb3 (List.mem_of_getElem? (i := 178) rfl)) rfl) (gw_t (tb3 (List.mem_of_getElem? (i := 179) rfl)) rfl) (gw_t (tb3 (List.mem_of_getElem? (i := 180) rfl)) rfl) (gw_t (tb1 (List.mem_of_getElem? (i := 10) rfl)) rfl) (gw_t (tb3 (List.mem_of_getElem? (i := 181) rfl)) rfl)) rfl rfl rfl ⟨rfl, by decide +kernel, by decide +kernel, by decide +kernel⟩ ⟨(Nat.le_of_ble_eq_true rfl), (Nat.le_of_ble_eq_true rfl)⟩) (va_recv hC.2.2.2.1 hP (q0 := 0) rfl rfl) rfl rfl (Nat.le_of_ble_eq_true rfl) dX9_init_215 ⟨(Nat.le_of_ble_eq_true rfl), (Nat.le_of_ble_eq_true rfl)⟩) (fun u H locs hp hP hD hS => ?_)
    refine g_vret ((fun i => [nI (2 + j1), nI j2, nI (1 + j3), nI (1 + j4), nI (1 + j5), nI j6 - 20, nI j7, -1, nI (1 + j11)].getD i 0), g, u) hF ?_ hP hD hS dX9_init_218 (Nat.le_of_ble_eq_true rfl) (Nat.le_of_ble_eq_true rfl)
    exact ⟨2 + j1, j2, 1 + j3, 1 + j4, 1 + j5, j6, j7, 1 + j11, none, rfl, rfl, rfl, rfl, rfl, rfl, rfl, rfl, rfl, by omega, by omega, by omega, by omega, by omega, by omega, by omega, by omega, by omega, fun g hg => nomatch hg⟩
