/-! (by wip/p32/wk3.py) -/
abbrev rn_text_fs : Room := { frames := 7, cells := 60, slots := 60000, locals := 420 }
set_option maxHeartbeats 4000000 in
set_option maxRecDepth 100000 in
theorem c_text_fs {l : Launch} {D : va_G} {Y : CYs} {h g mm n0 f0 pp qq bk aa bb jp gg : Nat} {v : Nat → Int32} (h0 : v 0 = nI n0) (h1 : v 1 = nI f0) (h2 : v 2 = nI pp) (h3 : v 3 = nI qq) (h4 : v 4 = nI bk) (h5 : v 5 = nI aa) (h6 : v 6 = nI bb) (h7 : v 7 = nI gg) (h8 : v 8 = nI jp) (b0 : n0 < 100) (b1 : f0 < 100) (b2 : pp < 100) (b3 : qq < 100) (b4 : bk < 100) (b5 : aa < 100) (b6 : bb < 100) (b8 : jp < 100) (b9 : pp + qq ≤ 100) (b10 : 1 ≤ pp) (b7 : gg < 100) (sz : Nat) : Met l yX9_text (Cond.code yX9_text cX9_text 1 (some (.object "java/lang/String")) :: gW) rn_text_fs (PcE XN ([(h, .inr (11, [.int (v 0), .int (v 1), .int (v 2), .int (v 3), .int (v 4), .int (v 5), .int (v 6), .int (v 7), .int (v 8), .ref g, .int (nI mm)]))]) Y D sz [.ref h]) (GR (S := Nat × (Nat → Int32)) (fun u _ => FB u.2 ∧ ∀ j, j < (txt f0 n0 false aa bb (some gg) pp qq bk (100 - pp - qq) jp).length → u.2 j = nI ((txt f0 n0 false aa bb (some gg) pp qq bk (100 - pp - qq) jp).getD j 0)) (fun u r => [(h, .inr (11, wkO v g mm)), (r, .inr (0, [.ref u.1, .int 0, .int 0, .int 0])), (u.1, .inl (Y.2.2.1.1, (txt f0 n0 false aa bb (some gg) pp qq bk (100 - pp - qq) jp).length, .inl u.2))]) Y D (va_A ([(h, .inr (11, [.int (v 0), .int (v 1), .int (v 2), .int (v 3), .int (v 4), .int (v 5), .int (v 6), .int (v 7), .int (v 8), .ref g, .int (nI mm)]))]) sz)) 60 60000 (va_A ([(h, .inr (11, [.int (v 0), .int (v 1), .int (v 2), .int (v 3), .int (v 4), .int (v 5), .int (v 6), .int (v 7), .int (v 8), .ref g, .int (nI mm)]))]) sz) := by
  refine Met_ofE (Qc := GR (S := Nat × (Nat → Int32)) (fun u _ => FB u.2 ∧ ∀ j, j < (txt f0 n0 false aa bb (some gg) pp qq bk (100 - pp - qq) jp).length → u.2 j = nI ((txt f0 n0 false aa bb (some gg) pp qq bk (100 - pp - qq) jp).getD j 0)) (fun u r => [(h, .inr (11, wkO v g mm)), (r, .inr (0, [.ref u.1, .int 0, .int 0, .int 0])), (u.1, .inl (Y.2.2.1.1, (txt f0 n0 false aa bb (some gg) pp qq bk (100 - pp - qq) jp).length, .inl u.2))]) Y D) (by decide) (Nat.le_of_ble_eq_true rfl) (fun p e s m args below meth c A hF hX hin hP hD hS ls hl => ?_) sz
  obtain ⟨hC, hb, hml, hr, hlk, hSW, hA⟩ := id hF
  have hx := hC.1
  have hl : lv_has ls 1 [(0, .ref h)] := hl
  refine n_new (ci := 1) (fs := [.null, .int 0, .int 0, .int 0]) hC hb inGJ4 tyJ4 tyJ4_ok (gw_t (tb4 (List.mem_of_getElem? (i := 0) rfl)) rfl) (gw_t (tb4 (List.mem_of_getElem? (i := 1) rfl)) rfl) (gw_t (tb1 (List.mem_of_getElem? (i := 12) rfl)) rfl) hP hD hS hA rfl (fun j hj => match j, hj with | 0, _ => rfl | 1, _ => rfl | 2, _ => rfl | 3, _ => rfl | n + 4, h => absurd h (by omega)) (Nat.le_of_ble_eq_true rfl) (Nat.le_of_ble_eq_true rfl) dX9_text_0 (fun bA H hP hD hS => ?_)
  have hP : va_P D vwCl ([(h, .inr (11, [.int (v 0), .int (v 1), .int (v 2), .int (v 3), .int (v 4), .int (v 5), .int (v 6), .int (v 7), .int (v 8), .ref g, .int (nI mm)])), (bA, .inr (1, [.null, .int 0, .int 0, .int 0]))]) H := hP
  have hD : va_D A ([(h, .inr (11, [.int (v 0), .int (v 1), .int (v 2), .int (v 3), .int (v 4), .int (v 5), .int (v 6), .int (v 7), .int (v 8), .ref g, .int (nI mm)])), (bA, .inr (1, [.null, .int 0, .int 0, .int 0]))]) := hD
  refine lv_dup hx hb dX9_text_3 rfl ?_
  refine g_v (Rs := [(h, .inr (11, [.int (v 0), .int (v 1), .int (v 2), .int (v 3), .int (v 4), .int (v 5), .int (v 6), .int (v 7), .int (v 8), .ref g, .int (nI mm)]))]) (C0 := [(bA, .inr (1, [.null, .int 0, .int 0, .int 0]))]) (As := [.ref bA]) hF hP hD hS XN_ok trivial (rI (As := []) (rest := [.ref bA]) hF hl (c_J4_init_da8c8 _) (cwI 0 hC.2.1 (gi_law (gw_t (tb4 (List.mem_of_getElem? (i := 4) rfl)) rfl)) rfl rfl rfl (hC.2.1 (Cond.initialized RJ4) (gw_t (tb1 (List.mem_of_getElem? (i := 12) rfl)) rfl)) (hC.2.1 (Cond.methodLink RX9 57 yJ4_init_da8c8) (gw_t (tb4 (List.mem_of_getElem? (i := 2) rfl)) rfl)) (hC.2.1 (Cond.instanceMethod yJ4_init_da8c8) (gw_t (tb4 (List.mem_of_getElem? (i := 3) rfl)) rfl)) rfl (by decide +kernel) ⟨(Nat.le_of_ble_eq_true rfl), (Nat.le_of_ble_eq_true rfl)⟩) rfl rfl (Nat.le_of_ble_eq_true rfl) dX9_text_4 ⟨(Nat.le_of_ble_eq_true rfl), (Nat.le_of_ble_eq_true rfl)⟩) (fun bAv H locs hp hP hD hS => ?_)
  have hP : va_P D vwCl ([(h, .inr (11, [.int (v 0), .int (v 1), .int (v 2), .int (v 3), .int (v 4), .int (v 5), .int (v 6), .int (v 7), .int (v 8), .ref g, .int (nI mm)])), (bA, .inr (1, [.ref bAv, .int 0, .int 0, .int (nI ([] : List Nat).length)])), (bAv, .inl (Y.2.2.1.1, 16, .inl (fun _ => 0)))]) H := hP
  have hD : va_D A ([(h, .inr (11, [.int (v 0), .int (v 1), .int (v 2), .int (v 3), .int (v 4), .int (v 5), .int (v 6), .int (v 7), .int (v 8), .ref g, .int (nI mm)])), (bA, .inr (1, [.ref bAv, .int 0, .int 0, .int (nI ([] : List Nat).length)])), (bAv, .inl (Y.2.2.1.1, 16, .inl (fun _ => 0)))]) := hD
  obtain ⟨a1, w1, hR1, hST1⟩ := hSW.1 _ (List.mem_of_getElem? (i := 2) rfl)
  refine va_ldcS hx hb hC.2.2.1 hR1 dX9_text_7 ?_
  refine g_r (Rs := [(h, .inr (11, [.int (v 0), .int (v 1), .int (v 2), .int (v 3), .int (v 4), .int (v 5), .int (v 6), .int (v 7), .int (v 8), .ref g, .int (nI mm)]))]) (C0 := [(bA, .inr (1, [.ref bAv, .int 0, .int 0, .int (nI ([] : List Nat).length)])), (bAv, .inl (Y.2.2.1.1, 16, .inl (fun _ => 0)))]) (As := [.ref bA, .ref a1]) hF hP hD hS STA_ok (X_at (Rs := [(h, .inr (11, [.int (v 0), .int (v 1), .int (v 2), .int (v 3), .int (v 4), .int (v 5), .int (v 6), .int (v 7), .int (v 8), .ref g, .int (nI mm)]))]) (C0 := [(bA, .inr (1, [.ref bAv, .int 0, .int 0, .int (nI ([] : List Nat).length)])), (bAv, .inl (Y.2.2.1.1, 16, .inl (fun _ => 0)))]) STA_ok hF hST1 hD hS) (rV (As := [.ref a1]) (rest := []) hF hl (c_J4_append_15ec4 (t := ([] : List Nat)) (w := wN0) CT_nil rfl (by decide) sbw_0 _) (cwV 1 hC.2.1 (gi_V (gw_t (tb4 (List.mem_of_getElem? (i := 32) rfl)) rfl) (gw_t (tb4 (List.mem_of_getElem? (i := 33) rfl)) rfl) (gw_t (tb4 (List.mem_of_getElem? (i := 34) rfl)) rfl) (gw_t (tb1 (List.mem_of_getElem? (i := 12) rfl)) rfl) (gw_t (tb4 (List.mem_of_getElem? (i := 35) rfl)) rfl)) rfl rfl rfl ⟨rfl, by decide +kernel, by decide +kernel, by decide +kernel⟩ ⟨(Nat.le_of_ble_eq_true rfl), (Nat.le_of_ble_eq_true rfl)⟩) (va_recv hC.2.2.2.1 hP (q0 := 1) rfl rfl) rfl rfl (Nat.le_of_ble_eq_true rfl) dX9_text_9 ⟨(Nat.le_of_ble_eq_true rfl), (Nat.le_of_ble_eq_true rfl)⟩) (fun r1 u1 H locs hp1 hP hD hS => ?_)
  obtain ⟨hr1, hc1⟩ := hp1
  have hr1 : bA = r1 := hr1.symm
  subst hr1
  obtain ⟨v1, m1, f1⟩ := u1
  obtain ⟨t1, et1⟩ : ∃ x, x = ([] : List Nat) ++ wN0 := ⟨_, rfl⟩
  have hc1 : CT (([] : List Nat) ++ wN0) m1 f1 := hc1
  rw [← et1] at hP hD hc1
  have hl1 : t1.length ≤ 8 := by
    rw [et1, List.length_append]
    decide
  have hP : va_P D vwCl ([(h, .inr (11, [.int (v 0), .int (v 1), .int (v 2), .int (v 3), .int (v 4), .int (v 5), .int (v 6), .int (v 7), .int (v 8), .ref g, .int (nI mm)])), (bA, .inr (1, [.ref v1, .int 0, .int 0, .int (nI t1.length)])), (v1, .inl (Y.2.2.1.1, m1, .inl f1))]) H := hP
  have hD : va_D A ([(h, .inr (11, [.int (v 0), .int (v 1), .int (v 2), .int (v 3), .int (v 4), .int (v 5), .int (v 6), .int (v 7), .int (v 8), .ref g, .int (nI mm)])), (bA, .inr (1, [.ref v1, .int 0, .int 0, .int (nI t1.length)])), (v1, .inl (Y.2.2.1.1, m1, .inl f1))]) := hD
  refine lv_aload_n hx hb dX9_text_12 rfl (lv_at hl 0 rfl) ?_
  refine n_get hC hb hP inGX9 0 rfl rfl 1 (by decide) rfl (gw_t (tb3 (List.mem_of_getElem? (i := 203) rfl)) rfl) rfl dX9_text_13 ?_
  refine lv_topi (fun x1 ex1 => ?_)
  have ex1 : x1 = nI f0 := ex1.trans (h1)
  subst ex1
  refine g_r (Rs := [(h, .inr (11, [.int (v 0), .int (v 1), .int (v 2), .int (v 3), .int (v 4), .int (v 5), .int (v 6), .int (v 7), .int (v 8), .ref g, .int (nI mm)]))]) (C0 := [(bA, .inr (1, [.ref v1, .int 0, .int 0, .int (nI t1.length)])), (v1, .inl (Y.2.2.1.1, m1, .inl f1))]) (As := [.ref bA, .int (nI f0)]) hF hP hD hS XN_ok trivial (rV (As := [.int (nI f0)]) (rest := []) hF hl (c_J4_append_bf812 (t := t1) (k0 := f0) b1 hc1 (by have := hl1; show _ + 2 ≤ _; omega) _) (cwV 1 hC.2.1 (gi_V (gw_t (tb4 (List.mem_of_getElem? (i := 150) rfl)) rfl) (gw_t (tb4 (List.mem_of_getElem? (i := 151) rfl)) rfl) (gw_t (tb4 (List.mem_of_getElem? (i := 152) rfl)) rfl) (gw_t (tb1 (List.mem_of_getElem? (i := 12) rfl)) rfl) (gw_t (tb4 (List.mem_of_getElem? (i := 153) rfl)) rfl)) rfl rfl rfl ⟨rfl, by decide +kernel, by decide +kernel, by decide +kernel⟩ ⟨(Nat.le_of_ble_eq_true rfl), (Nat.le_of_ble_eq_true rfl)⟩) (va_recv hC.2.2.2.1 hP (q0 := 1) rfl rfl) rfl rfl (Nat.le_of_ble_eq_true rfl) dX9_text_16 ⟨(Nat.le_of_ble_eq_true rfl), (Nat.le_of_ble_eq_true rfl)⟩) (fun r2 u2 H locs hp2 hP hD hS => ?_)
  obtain ⟨hr2, hc2⟩ := hp2
  have hr2 : bA = r2 := hr2.symm
  subst hr2
  obtain ⟨v2, m2, f2⟩ := u2
  obtain ⟨t2, et2⟩ : ∃ x, x = t1 ++ dg f0 := ⟨_, rfl⟩
  have hc2 : CT (t1 ++ dg f0) m2 f2 := hc2
  rw [← et2] at hP hD hc2
  have hl2 : t2.length ≤ 10 := by
    rw [et2, List.length_append]
    have := dg_ln f0; have := hl1; omega
  have hP : va_P D vwCl ([(h, .inr (11, [.int (v 0), .int (v 1), .int (v 2), .int (v 3), .int (v 4), .int (v 5), .int (v 6), .int (v 7), .int (v 8), .ref g, .int (nI mm)])), (bA, .inr (1, [.ref v2, .int 0, .int 0, .int (nI t2.length)])), (v2, .inl (Y.2.2.1.1, m2, .inl f2))]) H := hP
  have hD : va_D A ([(h, .inr (11, [.int (v 0), .int (v 1), .int (v 2), .int (v 3), .int (v 4), .int (v 5), .int (v 6), .int (v 7), .int (v 8), .ref g, .int (nI mm)])), (bA, .inr (1, [.ref v2, .int 0, .int 0, .int (nI t2.length)])), (v2, .inl (Y.2.2.1.1, m2, .inl f2))]) := hD
  obtain ⟨a3, w3, hR3, hST3⟩ := hSW.1 _ (List.mem_of_getElem? (i := 3) rfl)
  refine va_ldcS hx hb hC.2.2.1 hR3 dX9_text_19 ?_
  refine g_r (Rs := [(h, .inr (11, [.int (v 0), .int (v 1), .int (v 2), .int (v 3), .int (v 4), .int (v 5), .int (v 6), .int (v 7), .int (v 8), .ref g, .int (nI mm)]))]) (C0 := [(bA, .inr (1, [.ref v2, .int 0, .int 0, .int (nI t2.length)])), (v2, .inl (Y.2.2.1.1, m2, .inl f2))]) (As := [.ref bA, .ref a3]) hF hP hD hS STA_ok (X_at (Rs := [(h, .inr (11, [.int (v 0), .int (v 1), .int (v 2), .int (v 3), .int (v 4), .int (v 5), .int (v 6), .int (v 7), .int (v 8), .ref g, .int (nI mm)]))]) (C0 := [(bA, .inr (1, [.ref v2, .int 0, .int 0, .int (nI t2.length)])), (v2, .inl (Y.2.2.1.1, m2, .inl f2))]) STA_ok hF hST3 hD hS) (rV (As := [.ref a3]) (rest := []) hF hl (c_J4_append_15ec4 (t := t2) (w := wN1) hc2 rfl (by have := hl2; show _ + 9 ≤ _; omega) sbw_1 _) (cwV 1 hC.2.1 (gi_V (gw_t (tb4 (List.mem_of_getElem? (i := 32) rfl)) rfl) (gw_t (tb4 (List.mem_of_getElem? (i := 33) rfl)) rfl) (gw_t (tb4 (List.mem_of_getElem? (i := 34) rfl)) rfl) (gw_t (tb1 (List.mem_of_getElem? (i := 12) rfl)) rfl) (gw_t (tb4 (List.mem_of_getElem? (i := 35) rfl)) rfl)) rfl rfl rfl ⟨rfl, by decide +kernel, by decide +kernel, by decide +kernel⟩ ⟨(Nat.le_of_ble_eq_true rfl), (Nat.le_of_ble_eq_true rfl)⟩) (va_recv hC.2.2.2.1 hP (q0 := 1) rfl rfl) rfl rfl (Nat.le_of_ble_eq_true rfl) dX9_text_21 ⟨(Nat.le_of_ble_eq_true rfl), (Nat.le_of_ble_eq_true rfl)⟩) (fun r3 u3 H locs hp3 hP hD hS => ?_)
  obtain ⟨hr3, hc3⟩ := hp3
  have hr3 : bA = r3 := hr3.symm
  subst hr3
  obtain ⟨v3, m3, f3⟩ := u3
  obtain ⟨t3, et3⟩ : ∃ x, x = t2 ++ wN1 := ⟨_, rfl⟩
  have hc3 : CT (t2 ++ wN1) m3 f3 := hc3
  rw [← et3] at hP hD hc3
  have hl3 : t3.length ≤ 19 := by
    rw [et3, List.length_append]
    have := hl2; show _ + 9 ≤ _; omega
  have hP : va_P D vwCl ([(h, .inr (11, [.int (v 0), .int (v 1), .int (v 2), .int (v 3), .int (v 4), .int (v 5), .int (v 6), .int (v 7), .int (v 8), .ref g, .int (nI mm)])), (bA, .inr (1, [.ref v3, .int 0, .int 0, .int (nI t3.length)])), (v3, .inl (Y.2.2.1.1, m3, .inl f3))]) H := hP
  have hD : va_D A ([(h, .inr (11, [.int (v 0), .int (v 1), .int (v 2), .int (v 3), .int (v 4), .int (v 5), .int (v 6), .int (v 7), .int (v 8), .ref g, .int (nI mm)])), (bA, .inr (1, [.ref v3, .int 0, .int 0, .int (nI t3.length)])), (v3, .inl (Y.2.2.1.1, m3, .inl f3))]) := hD
  refine lv_aload_n hx hb dX9_text_24 rfl (lv_at hl 0 rfl) ?_
  refine n_get hC hb hP inGX9 0 rfl rfl 0 (by decide) rfl (gw_t (tb3 (List.mem_of_getElem? (i := 202) rfl)) rfl) rfl dX9_text_25 ?_
  refine lv_topi (fun x2 ex2 => ?_)
  have ex2 : x2 = nI n0 := ex2.trans (h0)
  subst ex2
  refine g_r (Rs := [(h, .inr (11, [.int (v 0), .int (v 1), .int (v 2), .int (v 3), .int (v 4), .int (v 5), .int (v 6), .int (v 7), .int (v 8), .ref g, .int (nI mm)]))]) (C0 := [(bA, .inr (1, [.ref v3, .int 0, .int 0, .int (nI t3.length)])), (v3, .inl (Y.2.2.1.1, m3, .inl f3))]) (As := [.ref bA, .int (nI n0)]) hF hP hD hS XN_ok trivial (rV (As := [.int (nI n0)]) (rest := []) hF hl (c_J4_append_bf812 (t := t3) (k0 := n0) b0 hc3 (by have := hl3; show _ + 2 ≤ _; omega) _) (cwV 1 hC.2.1 (gi_V (gw_t (tb4 (List.mem_of_getElem? (i := 150) rfl)) rfl) (gw_t (tb4 (List.mem_of_getElem? (i := 151) rfl)) rfl) (gw_t (tb4 (List.mem_of_getElem? (i := 152) rfl)) rfl) (gw_t (tb1 (List.mem_of_getElem? (i := 12) rfl)) rfl) (gw_t (tb4 (List.mem_of_getElem? (i := 153) rfl)) rfl)) rfl rfl rfl ⟨rfl, by decide +kernel, by decide +kernel, by decide +kernel⟩ ⟨(Nat.le_of_ble_eq_true rfl), (Nat.le_of_ble_eq_true rfl)⟩) (va_recv hC.2.2.2.1 hP (q0 := 1) rfl rfl) rfl rfl (Nat.le_of_ble_eq_true rfl) dX9_text_28 ⟨(Nat.le_of_ble_eq_true rfl), (Nat.le_of_ble_eq_true rfl)⟩) (fun r4 u4 H locs hp4 hP hD hS => ?_)
  obtain ⟨hr4, hc4⟩ := hp4
  have hr4 : bA = r4 := hr4.symm
  subst hr4
  obtain ⟨v4, m4, f4⟩ := u4
  obtain ⟨t4, et4⟩ : ∃ x, x = t3 ++ dg n0 := ⟨_, rfl⟩
  have hc4 : CT (t3 ++ dg n0) m4 f4 := hc4
  rw [← et4] at hP hD hc4
  have hl4 : t4.length ≤ 21 := by
    rw [et4, List.length_append]
    have := dg_ln n0; have := hl3; omega
  have hP : va_P D vwCl ([(h, .inr (11, [.int (v 0), .int (v 1), .int (v 2), .int (v 3), .int (v 4), .int (v 5), .int (v 6), .int (v 7), .int (v 8), .ref g, .int (nI mm)])), (bA, .inr (1, [.ref v4, .int 0, .int 0, .int (nI t4.length)])), (v4, .inl (Y.2.2.1.1, m4, .inl f4))]) H := hP
  have hD : va_D A ([(h, .inr (11, [.int (v 0), .int (v 1), .int (v 2), .int (v 3), .int (v 4), .int (v 5), .int (v 6), .int (v 7), .int (v 8), .ref g, .int (nI mm)])), (bA, .inr (1, [.ref v4, .int 0, .int 0, .int (nI t4.length)])), (v4, .inl (Y.2.2.1.1, m4, .inl f4))]) := hD
  obtain ⟨a5, w5, hR5, hST5⟩ := hSW.1 _ (List.mem_of_getElem? (i := 4) rfl)
  refine va_ldcS hx hb hC.2.2.1 hR5 dX9_text_31 ?_
  refine g_r (Rs := [(h, .inr (11, [.int (v 0), .int (v 1), .int (v 2), .int (v 3), .int (v 4), .int (v 5), .int (v 6), .int (v 7), .int (v 8), .ref g, .int (nI mm)]))]) (C0 := [(bA, .inr (1, [.ref v4, .int 0, .int 0, .int (nI t4.length)])), (v4, .inl (Y.2.2.1.1, m4, .inl f4))]) (As := [.ref bA, .ref a5]) hF hP hD hS STA_ok (X_at (Rs := [(h, .inr (11, [.int (v 0), .int (v 1), .int (v 2), .int (v 3), .int (v 4), .int (v 5), .int (v 6), .int (v 7), .int (v 8), .ref g, .int (nI mm)]))]) (C0 := [(bA, .inr (1, [.ref v4, .int 0, .int 0, .int (nI t4.length)])), (v4, .inl (Y.2.2.1.1, m4, .inl f4))]) STA_ok hF hST5 hD hS) (rV (As := [.ref a5]) (rest := []) hF hl (c_J4_append_15ec4 (t := t4) (w := wN2) hc4 rfl (by have := hl4; show _ + 32 ≤ _; omega) sbw_2 _) (cwV 1 hC.2.1 (gi_V (gw_t (tb4 (List.mem_of_getElem? (i := 32) rfl)) rfl) (gw_t (tb4 (List.mem_of_getElem? (i := 33) rfl)) rfl) (gw_t (tb4 (List.mem_of_getElem? (i := 34) rfl)) rfl) (gw_t (tb1 (List.mem_of_getElem? (i := 12) rfl)) rfl) (gw_t (tb4 (List.mem_of_getElem? (i := 35) rfl)) rfl)) rfl rfl rfl ⟨rfl, by decide +kernel, by decide +kernel, by decide +kernel⟩ ⟨(Nat.le_of_ble_eq_true rfl), (Nat.le_of_ble_eq_true rfl)⟩) (va_recv hC.2.2.2.1 hP (q0 := 1) rfl rfl) rfl rfl (Nat.le_of_ble_eq_true rfl) dX9_text_33 ⟨(Nat.le_of_ble_eq_true rfl), (Nat.le_of_ble_eq_true rfl)⟩) (fun r5 u5 H locs hp5 hP hD hS => ?_)
  obtain ⟨hr5, hc5⟩ := hp5
  have hr5 : bA = r5 := hr5.symm
  subst hr5
  obtain ⟨v5, m5, f5⟩ := u5
  obtain ⟨t5, et5⟩ : ∃ x, x = t4 ++ wN2 := ⟨_, rfl⟩
  have hc5 : CT (t4 ++ wN2) m5 f5 := hc5
  rw [← et5] at hP hD hc5
  have hl5 : t5.length ≤ 53 := by
    rw [et5, List.length_append]
    have := hl4; show _ + 32 ≤ _; omega
  have hP : va_P D vwCl ([(h, .inr (11, [.int (v 0), .int (v 1), .int (v 2), .int (v 3), .int (v 4), .int (v 5), .int (v 6), .int (v 7), .int (v 8), .ref g, .int (nI mm)])), (bA, .inr (1, [.ref v5, .int 0, .int 0, .int (nI t5.length)])), (v5, .inl (Y.2.2.1.1, m5, .inl f5))]) H := hP
  have hD : va_D A ([(h, .inr (11, [.int (v 0), .int (v 1), .int (v 2), .int (v 3), .int (v 4), .int (v 5), .int (v 6), .int (v 7), .int (v 8), .ref g, .int (nI mm)])), (bA, .inr (1, [.ref v5, .int 0, .int 0, .int (nI t5.length)])), (v5, .inl (Y.2.2.1.1, m5, .inl f5))]) := hD
  refine lv_aload_n hx hb dX9_text_36 rfl (lv_at hl 0 rfl) ?_
  refine n_get hC hb hP inGX9 0 rfl rfl 5 (by decide) rfl (gw_t (tb3 (List.mem_of_getElem? (i := 207) rfl)) rfl) rfl dX9_text_37 ?_
  refine lv_topi (fun x3 ex3 => ?_)
  have ex3 : x3 = nI aa := ex3.trans (h5)
  subst ex3
  refine lv_if_ge (tgt := 69) hx hb dX9_text_40 (by decide) (fun c4 => ?_) (fun c4 => False.elim (c4 (nI_pos' (by omega))))
  refine n_new (ci := 1) (fs := [.null, .int 0, .int 0, .int 0]) hC hb inGJ4 tyJ4 tyJ4_ok (gw_t (tb4 (List.mem_of_getElem? (i := 0) rfl)) rfl) (gw_t (tb4 (List.mem_of_getElem? (i := 1) rfl)) rfl) (gw_t (tb1 (List.mem_of_getElem? (i := 12) rfl)) rfl) hP hD hS hA rfl (fun j hj => match j, hj with | 0, _ => rfl | 1, _ => rfl | 2, _ => rfl | 3, _ => rfl | n + 4, h => absurd h (by omega)) (Nat.le_of_ble_eq_true rfl) (Nat.le_of_ble_eq_true rfl) dX9_text_69 (fun bI H hP hD hS => ?_)
  have hP : va_P D vwCl ([(h, .inr (11, [.int (v 0), .int (v 1), .int (v 2), .int (v 3), .int (v 4), .int (v 5), .int (v 6), .int (v 7), .int (v 8), .ref g, .int (nI mm)])), (bA, .inr (1, [.ref v5, .int 0, .int 0, .int (nI t5.length)])), (v5, .inl (Y.2.2.1.1, m5, .inl f5)), (bI, .inr (1, [.null, .int 0, .int 0, .int 0]))]) H := hP
  have hD : va_D A ([(h, .inr (11, [.int (v 0), .int (v 1), .int (v 2), .int (v 3), .int (v 4), .int (v 5), .int (v 6), .int (v 7), .int (v 8), .ref g, .int (nI mm)])), (bA, .inr (1, [.ref v5, .int 0, .int 0, .int (nI t5.length)])), (v5, .inl (Y.2.2.1.1, m5, .inl f5)), (bI, .inr (1, [.null, .int 0, .int 0, .int 0]))]) := hD
  refine lv_dup hx hb dX9_text_72 rfl ?_
  refine g_v (Rs := [(h, .inr (11, [.int (v 0), .int (v 1), .int (v 2), .int (v 3), .int (v 4), .int (v 5), .int (v 6), .int (v 7), .int (v 8), .ref g, .int (nI mm)])), (bA, .inr (1, [.ref v5, .int 0, .int 0, .int (nI t5.length)])), (v5, .inl (Y.2.2.1.1, m5, .inl f5))]) (C0 := [(bI, .inr (1, [.null, .int 0, .int 0, .int 0]))]) (As := [.ref bI]) hF hP hD hS XN_ok trivial (rI (As := []) (rest := [.ref bI, .ref bA]) hF hl (c_J4_init_da8c8 _) (cwI 0 hC.2.1 (gi_law (gw_t (tb4 (List.mem_of_getElem? (i := 4) rfl)) rfl)) rfl rfl rfl (hC.2.1 (Cond.initialized RJ4) (gw_t (tb1 (List.mem_of_getElem? (i := 12) rfl)) rfl)) (hC.2.1 (Cond.methodLink RX9 57 yJ4_init_da8c8) (gw_t (tb4 (List.mem_of_getElem? (i := 2) rfl)) rfl)) (hC.2.1 (Cond.instanceMethod yJ4_init_da8c8) (gw_t (tb4 (List.mem_of_getElem? (i := 3) rfl)) rfl)) rfl (by decide +kernel) ⟨(Nat.le_of_ble_eq_true rfl), (Nat.le_of_ble_eq_true rfl)⟩) rfl rfl (Nat.le_of_ble_eq_true rfl) dX9_text_73 ⟨(Nat.le_of_ble_eq_true rfl), (Nat.le_of_ble_eq_true rfl)⟩) (fun bIv H locs hp hP hD hS => ?_)
  have hP : va_P D vwCl ([(h, .inr (11, [.int (v 0), .int (v 1), .int (v 2), .int (v 3), .int (v 4), .int (v 5), .int (v 6), .int (v 7), .int (v 8), .ref g, .int (nI mm)])), (bA, .inr (1, [.ref v5, .int 0, .int 0, .int (nI t5.length)])), (v5, .inl (Y.2.2.1.1, m5, .inl f5)), (bI, .inr (1, [.ref bIv, .int 0, .int 0, .int (nI ([] : List Nat).length)])), (bIv, .inl (Y.2.2.1.1, 16, .inl (fun _ => 0)))]) H := hP
  have hD : va_D A ([(h, .inr (11, [.int (v 0), .int (v 1), .int (v 2), .int (v 3), .int (v 4), .int (v 5), .int (v 6), .int (v 7), .int (v 8), .ref g, .int (nI mm)])), (bA, .inr (1, [.ref v5, .int 0, .int 0, .int (nI t5.length)])), (v5, .inl (Y.2.2.1.1, m5, .inl f5)), (bI, .inr (1, [.ref bIv, .int 0, .int 0, .int (nI ([] : List Nat).length)])), (bIv, .inl (Y.2.2.1.1, 16, .inl (fun _ => 0)))]) := hD
  obtain ⟨a6, w6, hR6, hST6⟩ := hSW.1 _ (List.mem_of_getElem? (i := 6) rfl)
  refine va_ldcS hx hb hC.2.2.1 hR6 dX9_text_76 ?_
  refine g_r (Rs := [(h, .inr (11, [.int (v 0), .int (v 1), .int (v 2), .int (v 3), .int (v 4), .int (v 5), .int (v 6), .int (v 7), .int (v 8), .ref g, .int (nI mm)])), (bA, .inr (1, [.ref v5, .int 0, .int 0, .int (nI t5.length)])), (v5, .inl (Y.2.2.1.1, m5, .inl f5))]) (C0 := [(bI, .inr (1, [.ref bIv, .int 0, .int 0, .int (nI ([] : List Nat).length)])), (bIv, .inl (Y.2.2.1.1, 16, .inl (fun _ => 0)))]) (As := [.ref bI, .ref a6]) hF hP hD hS STA_ok (X_at (Rs := [(h, .inr (11, [.int (v 0), .int (v 1), .int (v 2), .int (v 3), .int (v 4), .int (v 5), .int (v 6), .int (v 7), .int (v 8), .ref g, .int (nI mm)])), (bA, .inr (1, [.ref v5, .int 0, .int 0, .int (nI t5.length)])), (v5, .inl (Y.2.2.1.1, m5, .inl f5))]) (C0 := [(bI, .inr (1, [.ref bIv, .int 0, .int 0, .int (nI ([] : List Nat).length)])), (bIv, .inl (Y.2.2.1.1, 16, .inl (fun _ => 0)))]) STA_ok hF hST6 hD hS) (rV (As := [.ref a6]) (rest := [.ref bA]) hF hl (c_J4_append_15ec4 (t := ([] : List Nat)) (w := wN4) CT_nil rfl (by decide) sbw_4 _) (cwV 1 hC.2.1 (gi_V (gw_t (tb4 (List.mem_of_getElem? (i := 32) rfl)) rfl) (gw_t (tb4 (List.mem_of_getElem? (i := 33) rfl)) rfl) (gw_t (tb4 (List.mem_of_getElem? (i := 34) rfl)) rfl) (gw_t (tb1 (List.mem_of_getElem? (i := 12) rfl)) rfl) (gw_t (tb4 (List.mem_of_getElem? (i := 35) rfl)) rfl)) rfl rfl rfl ⟨rfl, by decide +kernel, by decide +kernel, by decide +kernel⟩ ⟨(Nat.le_of_ble_eq_true rfl), (Nat.le_of_ble_eq_true rfl)⟩) (va_recv hC.2.2.2.1 hP (q0 := 3) rfl rfl) rfl rfl (Nat.le_of_ble_eq_true rfl) dX9_text_78 ⟨(Nat.le_of_ble_eq_true rfl), (Nat.le_of_ble_eq_true rfl)⟩) (fun r6 u6 H locs hp6 hP hD hS => ?_)
  obtain ⟨hr6, hc6⟩ := hp6
  have hr6 : bI = r6 := hr6.symm
  subst hr6
  obtain ⟨v6, m6, f6⟩ := u6
  obtain ⟨t6, et6⟩ : ∃ x, x = ([] : List Nat) ++ wN4 := ⟨_, rfl⟩
  have hc6 : CT (([] : List Nat) ++ wN4) m6 f6 := hc6
  rw [← et6] at hP hD hc6
  have hl6 : t6.length ≤ 0 := by
    rw [et6, List.length_append]
    decide
  have hP : va_P D vwCl ([(h, .inr (11, [.int (v 0), .int (v 1), .int (v 2), .int (v 3), .int (v 4), .int (v 5), .int (v 6), .int (v 7), .int (v 8), .ref g, .int (nI mm)])), (bA, .inr (1, [.ref v5, .int 0, .int 0, .int (nI t5.length)])), (v5, .inl (Y.2.2.1.1, m5, .inl f5)), (bI, .inr (1, [.ref v6, .int 0, .int 0, .int (nI t6.length)])), (v6, .inl (Y.2.2.1.1, m6, .inl f6))]) H := hP
  have hD : va_D A ([(h, .inr (11, [.int (v 0), .int (v 1), .int (v 2), .int (v 3), .int (v 4), .int (v 5), .int (v 6), .int (v 7), .int (v 8), .ref g, .int (nI mm)])), (bA, .inr (1, [.ref v5, .int 0, .int 0, .int (nI t5.length)])), (v5, .inl (Y.2.2.1.1, m5, .inl f5)), (bI, .inr (1, [.ref v6, .int 0, .int 0, .int (nI t6.length)])), (v6, .inl (Y.2.2.1.1, m6, .inl f6))]) := hD
  have hz6 : ∀ x ∈ t6, x < 128 := by rw [et6]; exact ap128 (fun x hx => absurd hx List.not_mem_nil) w128_4
  refine lv_aload_n hx hb dX9_text_81 rfl (lv_at hl 0 rfl) ?_
  refine n_get hC hb hP inGX9 0 rfl rfl 5 (by decide) rfl (gw_t (tb3 (List.mem_of_getElem? (i := 207) rfl)) rfl) rfl dX9_text_82 ?_
  refine lv_topi (fun x5 ex5 => ?_)
  have ex5 : x5 = nI aa := ex5.trans (h5)
  subst ex5
  refine g_r (Rs := [(h, .inr (11, [.int (v 0), .int (v 1), .int (v 2), .int (v 3), .int (v 4), .int (v 5), .int (v 6), .int (v 7), .int (v 8), .ref g, .int (nI mm)])), (bA, .inr (1, [.ref v5, .int 0, .int 0, .int (nI t5.length)])), (v5, .inl (Y.2.2.1.1, m5, .inl f5))]) (C0 := [(bI, .inr (1, [.ref v6, .int 0, .int 0, .int (nI t6.length)])), (v6, .inl (Y.2.2.1.1, m6, .inl f6))]) (As := [.ref bI, .int (nI aa)]) hF hP hD hS XN_ok trivial (rV (As := [.int (nI aa)]) (rest := [.ref bA]) hF hl (c_J4_append_bf812 (t := t6) (k0 := aa) b5 hc6 (by have := hl6; show _ + 2 ≤ _; omega) _) (cwV 1 hC.2.1 (gi_V (gw_t (tb4 (List.mem_of_getElem? (i := 150) rfl)) rfl) (gw_t (tb4 (List.mem_of_getElem? (i := 151) rfl)) rfl) (gw_t (tb4 (List.mem_of_getElem? (i := 152) rfl)) rfl) (gw_t (tb1 (List.mem_of_getElem? (i := 12) rfl)) rfl) (gw_t (tb4 (List.mem_of_getElem? (i := 153) rfl)) rfl)) rfl rfl rfl ⟨rfl, by decide +kernel, by decide +kernel, by decide +kernel⟩ ⟨(Nat.le_of_ble_eq_true rfl), (Nat.le_of_ble_eq_true rfl)⟩) (va_recv hC.2.2.2.1 hP (q0 := 3) rfl rfl) rfl rfl (Nat.le_of_ble_eq_true rfl) dX9_text_85 ⟨(Nat.le_of_ble_eq_true rfl), (Nat.le_of_ble_eq_true rfl)⟩) (fun r7 u7 H locs hp7 hP hD hS => ?_)
  obtain ⟨hr7, hc7⟩ := hp7
  have hr7 : bI = r7 := hr7.symm
  subst hr7
  obtain ⟨v7, m7, f7⟩ := u7
  obtain ⟨t7, et7⟩ : ∃ x, x = t6 ++ dg aa := ⟨_, rfl⟩
  have hc7 : CT (t6 ++ dg aa) m7 f7 := hc7
  rw [← et7] at hP hD hc7
  have hl7 : t7.length ≤ 2 := by
    rw [et7, List.length_append]
    have := dg_ln aa; have := hl6; omega
  have hP : va_P D vwCl ([(h, .inr (11, [.int (v 0), .int (v 1), .int (v 2), .int (v 3), .int (v 4), .int (v 5), .int (v 6), .int (v 7), .int (v 8), .ref g, .int (nI mm)])), (bA, .inr (1, [.ref v5, .int 0, .int 0, .int (nI t5.length)])), (v5, .inl (Y.2.2.1.1, m5, .inl f5)), (bI, .inr (1, [.ref v7, .int 0, .int 0, .int (nI t7.length)])), (v7, .inl (Y.2.2.1.1, m7, .inl f7))]) H := hP
  have hD : va_D A ([(h, .inr (11, [.int (v 0), .int (v 1), .int (v 2), .int (v 3), .int (v 4), .int (v 5), .int (v 6), .int (v 7), .int (v 8), .ref g, .int (nI mm)])), (bA, .inr (1, [.ref v5, .int 0, .int 0, .int (nI t5.length)])), (v5, .inl (Y.2.2.1.1, m5, .inl f5)), (bI, .inr (1, [.ref v7, .int 0, .int 0, .int (nI t7.length)])), (v7, .inl (Y.2.2.1.1, m7, .inl f7))]) := hD
  have hz7 : ∀ x ∈ t7, x < 128 := by rw [et7]; exact ap128 hz6 (dg128 b5)
  refine g_r (Rs := [(h, .inr (11, [.int (v 0), .int (v 1), .int (v 2), .int (v 3), .int (v 4), .int (v 5), .int (v 6), .int (v 7), .int (v 8), .ref g, .int (nI mm)])), (bA, .inr (1, [.ref v5, .int 0, .int 0, .int (nI t5.length)])), (v5, .inl (Y.2.2.1.1, m5, .inl f5))]) (C0 := [(bI, .inr (1, [.ref v7, .int 0, .int 0, .int (nI t7.length)])), (v7, .inl (Y.2.2.1.1, m7, .inl f7))]) (As := [.ref bI]) hF hP hD hS XN_ok trivial (rV (As := []) (rest := [.ref bA]) hF hl (c_J4_toString_0e30d hc7 _) (cwV 0 hC.2.1 (gi_V (gw_t (tb4 (List.mem_of_getElem? (i := 178) rfl)) rfl) (gw_t (tb4 (List.mem_of_getElem? (i := 179) rfl)) rfl) (gw_t (tb4 (List.mem_of_getElem? (i := 180) rfl)) rfl) (gw_t (tb1 (List.mem_of_getElem? (i := 12) rfl)) rfl) (gw_t (tb4 (List.mem_of_getElem? (i := 181) rfl)) rfl)) rfl rfl rfl ⟨rfl, by decide +kernel, by decide +kernel, by decide +kernel⟩ ⟨(Nat.le_of_ble_eq_true rfl), (Nat.le_of_ble_eq_true rfl)⟩) (va_recv hC.2.2.2.1 hP (q0 := 3) rfl rfl) rfl rfl (Nat.le_of_ble_eq_true rfl) dX9_text_88 ⟨(Nat.le_of_ble_eq_true rfl), (Nat.le_of_ble_eq_true rfl)⟩) (fun r8 u8 H locs hp8 hP hD hS => ?_)
  obtain ⟨v8, f8⟩ := u8
  obtain ⟨hb8, hg8⟩ := hp8
  have hb8 : FB f8 := hb8
  have hg8 : ∀ j, j < t7.length → f8 j = nI (t7.getD j 0) := hg8
  have hP : va_P D vwCl ([(h, .inr (11, [.int (v 0), .int (v 1), .int (v 2), .int (v 3), .int (v 4), .int (v 5), .int (v 6), .int (v 7), .int (v 8), .ref g, .int (nI mm)])), (bA, .inr (1, [.ref v5, .int 0, .int 0, .int (nI t5.length)])), (v5, .inl (Y.2.2.1.1, m5, .inl f5)), (r8, .inr (0, [.ref v8, .int 0, .int 0, .int 0])), (v8, .inl (Y.2.2.1.1, t7.length, .inl f8))]) H := hP
  have hD : va_D A ([(h, .inr (11, [.int (v 0), .int (v 1), .int (v 2), .int (v 3), .int (v 4), .int (v 5), .int (v 6), .int (v 7), .int (v 8), .ref g, .int (nI mm)])), (bA, .inr (1, [.ref v5, .int 0, .int 0, .int (nI t5.length)])), (v5, .inl (Y.2.2.1.1, m5, .inl f5)), (r8, .inr (0, [.ref v8, .int 0, .int 0, .int 0])), (v8, .inl (Y.2.2.1.1, t7.length, .inl f8))]) := hD
  have hP : va_P D vwCl ([(h, .inr (11, [.int (v 0), .int (v 1), .int (v 2), .int (v 3), .int (v 4), .int (v 5), .int (v 6), .int (v 7), .int (v 8), .ref g, .int (nI mm)])), (r8, .inr (0, [.ref v8, .int 0, .int 0, .int 0])), (v8, .inl (Y.2.2.1.1, t7.length, .inl f8)), (bA, .inr (1, [.ref v5, .int 0, .int 0, .int (nI t5.length)])), (v5, .inl (Y.2.2.1.1, m5, .inl f5))]) H := hP.sub [0, 3, 4, 1, 2] rfl
  have hD : va_D A ([(h, .inr (11, [.int (v 0), .int (v 1), .int (v 2), .int (v 3), .int (v 4), .int (v 5), .int (v 6), .int (v 7), .int (v 8), .ref g, .int (nI mm)])), (r8, .inr (0, [.ref v8, .int 0, .int 0, .int 0])), (v8, .inl (Y.2.2.1.1, t7.length, .inl f8)), (bA, .inr (1, [.ref v5, .int 0, .int 0, .int (nI t5.length)])), (v5, .inl (Y.2.2.1.1, m5, .inl f5))]) := hD.sub [0, 3, 4, 1, 2] (by decide) rfl
  refine g_r (Rs := [(h, .inr (11, [.int (v 0), .int (v 1), .int (v 2), .int (v 3), .int (v 4), .int (v 5), .int (v 6), .int (v 7), .int (v 8), .ref g, .int (nI mm)])), (r8, .inr (0, [.ref v8, .int 0, .int 0, .int 0])), (v8, .inl (Y.2.2.1.1, t7.length, .inl f8))]) (C0 := [(bA, .inr (1, [.ref v5, .int 0, .int 0, .int (nI t5.length)])), (v5, .inl (Y.2.2.1.1, m5, .inl f5))]) (As := [.ref bA, .ref r8]) hF hP hD hS STA_ok (sta_of (Rs := [(h, .inr (11, [.int (v 0), .int (v 1), .int (v 2), .int (v 3), .int (v 4), .int (v 5), .int (v 6), .int (v 7), .int (v 8), .ref g, .int (nI mm)])), (r8, .inr (0, [.ref v8, .int 0, .int 0, .int 0])), (v8, .inl (Y.2.2.1.1, t7.length, .inl f8))]) (C0 := [(bA, .inr (1, [.ref v5, .int 0, .int 0, .int (nI t5.length)])), (v5, .inl (Y.2.2.1.1, m5, .inl f5))]) hC hP hD 1 2 rfl rfl) (rV (As := [.ref r8]) (rest := []) hF hl (c_J4_append_15ec4 (t := t5) (w := t7) hc5 rfl (by have := hl5; have := hl7; omega) (sb_of hg8 hz7) _) (cwV 1 hC.2.1 (gi_V (gw_t (tb4 (List.mem_of_getElem? (i := 32) rfl)) rfl) (gw_t (tb4 (List.mem_of_getElem? (i := 33) rfl)) rfl) (gw_t (tb4 (List.mem_of_getElem? (i := 34) rfl)) rfl) (gw_t (tb1 (List.mem_of_getElem? (i := 12) rfl)) rfl) (gw_t (tb4 (List.mem_of_getElem? (i := 35) rfl)) rfl)) rfl rfl rfl ⟨rfl, by decide +kernel, by decide +kernel, by decide +kernel⟩ ⟨(Nat.le_of_ble_eq_true rfl), (Nat.le_of_ble_eq_true rfl)⟩) (va_recv hC.2.2.2.1 hP (q0 := 3) rfl rfl) rfl rfl (Nat.le_of_ble_eq_true rfl) dX9_text_91 ⟨(Nat.le_of_ble_eq_true rfl), (Nat.le_of_ble_eq_true rfl)⟩) (fun r9 u9 H locs hp9 hP hD hS => ?_)
  obtain ⟨hr9, hc9⟩ := hp9
  have hr9 : bA = r9 := hr9.symm
  subst hr9
  obtain ⟨v9, m9, f9⟩ := u9
  obtain ⟨t9, et9⟩ : ∃ x, x = t5 ++ t7 := ⟨_, rfl⟩
  have hc9 : CT (t5 ++ t7) m9 f9 := hc9
  rw [← et9] at hP hD hc9
  have hl9 : t9.length ≤ 55 := by
    rw [et9, List.length_append]
    have := hl5; have := hl7; omega
  have hP : va_P D vwCl ([(h, .inr (11, [.int (v 0), .int (v 1), .int (v 2), .int (v 3), .int (v 4), .int (v 5), .int (v 6), .int (v 7), .int (v 8), .ref g, .int (nI mm)])), (r8, .inr (0, [.ref v8, .int 0, .int 0, .int 0])), (v8, .inl (Y.2.2.1.1, t7.length, .inl f8)), (bA, .inr (1, [.ref v9, .int 0, .int 0, .int (nI t9.length)])), (v9, .inl (Y.2.2.1.1, m9, .inl f9))]) H := hP
  have hD : va_D A ([(h, .inr (11, [.int (v 0), .int (v 1), .int (v 2), .int (v 3), .int (v 4), .int (v 5), .int (v 6), .int (v 7), .int (v 8), .ref g, .int (nI mm)])), (r8, .inr (0, [.ref v8, .int 0, .int 0, .int 0])), (v8, .inl (Y.2.2.1.1, t7.length, .inl f8)), (bA, .inr (1, [.ref v9, .int 0, .int 0, .int (nI t9.length)])), (v9, .inl (Y.2.2.1.1, m9, .inl f9))]) := hD
  have hP : va_P D vwCl ([(h, .inr (11, [.int (v 0), .int (v 1), .int (v 2), .int (v 3), .int (v 4), .int (v 5), .int (v 6), .int (v 7), .int (v 8), .ref g, .int (nI mm)])), (bA, .inr (1, [.ref v9, .int 0, .int 0, .int (nI t9.length)])), (v9, .inl (Y.2.2.1.1, m9, .inl f9))]) H := hP.sub [0, 3, 4] rfl
  have hD : va_D A ([(h, .inr (11, [.int (v 0), .int (v 1), .int (v 2), .int (v 3), .int (v 4), .int (v 5), .int (v 6), .int (v 7), .int (v 8), .ref g, .int (nI mm)])), (bA, .inr (1, [.ref v9, .int 0, .int 0, .int (nI t9.length)])), (v9, .inl (Y.2.2.1.1, m9, .inl f9))]) := hD.sub [0, 3, 4] (by decide) rfl
  obtain ⟨a10, w10, hR10, hST10⟩ := hSW.1 _ (List.mem_of_getElem? (i := 7) rfl)
  refine va_ldcS hx hb hC.2.2.1 hR10 dX9_text_94 ?_
  refine g_r (Rs := [(h, .inr (11, [.int (v 0), .int (v 1), .int (v 2), .int (v 3), .int (v 4), .int (v 5), .int (v 6), .int (v 7), .int (v 8), .ref g, .int (nI mm)]))]) (C0 := [(bA, .inr (1, [.ref v9, .int 0, .int 0, .int (nI t9.length)])), (v9, .inl (Y.2.2.1.1, m9, .inl f9))]) (As := [.ref bA, .ref a10]) hF hP hD hS STA_ok (X_at (Rs := [(h, .inr (11, [.int (v 0), .int (v 1), .int (v 2), .int (v 3), .int (v 4), .int (v 5), .int (v 6), .int (v 7), .int (v 8), .ref g, .int (nI mm)]))]) (C0 := [(bA, .inr (1, [.ref v9, .int 0, .int 0, .int (nI t9.length)])), (v9, .inl (Y.2.2.1.1, m9, .inl f9))]) STA_ok hF hST10 hD hS) (rV (As := [.ref a10]) (rest := []) hF hl (c_J4_append_15ec4 (t := t9) (w := wN5) hc9 rfl (by have := hl9; show _ + 7 ≤ _; omega) sbw_5 _) (cwV 1 hC.2.1 (gi_V (gw_t (tb4 (List.mem_of_getElem? (i := 32) rfl)) rfl) (gw_t (tb4 (List.mem_of_getElem? (i := 33) rfl)) rfl) (gw_t (tb4 (List.mem_of_getElem? (i := 34) rfl)) rfl) (gw_t (tb1 (List.mem_of_getElem? (i := 12) rfl)) rfl) (gw_t (tb4 (List.mem_of_getElem? (i := 35) rfl)) rfl)) rfl rfl rfl ⟨rfl, by decide +kernel, by decide +kernel, by decide +kernel⟩ ⟨(Nat.le_of_ble_eq_true rfl), (Nat.le_of_ble_eq_true rfl)⟩) (va_recv hC.2.2.2.1 hP (q0 := 1) rfl rfl) rfl rfl (Nat.le_of_ble_eq_true rfl) dX9_text_96 ⟨(Nat.le_of_ble_eq_true rfl), (Nat.le_of_ble_eq_true rfl)⟩) (fun r10 u10 H locs hp10 hP hD hS => ?_)
  obtain ⟨hr10, hc10⟩ := hp10
  have hr10 : bA = r10 := hr10.symm
  subst hr10
  obtain ⟨v10, m10, f10⟩ := u10
  obtain ⟨t10, et10⟩ : ∃ x, x = t9 ++ wN5 := ⟨_, rfl⟩
  have hc10 : CT (t9 ++ wN5) m10 f10 := hc10
  rw [← et10] at hP hD hc10
  have hl10 : t10.length ≤ 62 := by
    rw [et10, List.length_append]
    have := hl9; show _ + 7 ≤ _; omega
  have hP : va_P D vwCl ([(h, .inr (11, [.int (v 0), .int (v 1), .int (v 2), .int (v 3), .int (v 4), .int (v 5), .int (v 6), .int (v 7), .int (v 8), .ref g, .int (nI mm)])), (bA, .inr (1, [.ref v10, .int 0, .int 0, .int (nI t10.length)])), (v10, .inl (Y.2.2.1.1, m10, .inl f10))]) H := hP
  have hD : va_D A ([(h, .inr (11, [.int (v 0), .int (v 1), .int (v 2), .int (v 3), .int (v 4), .int (v 5), .int (v 6), .int (v 7), .int (v 8), .ref g, .int (nI mm)])), (bA, .inr (1, [.ref v10, .int 0, .int 0, .int (nI t10.length)])), (v10, .inl (Y.2.2.1.1, m10, .inl f10))]) := hD
  refine lv_aload_n hx hb dX9_text_99 rfl (lv_at hl 0 rfl) ?_
  refine n_get hC hb hP inGX9 0 rfl rfl 6 (by decide) rfl (gw_t (tb3 (List.mem_of_getElem? (i := 208) rfl)) rfl) rfl dX9_text_100 ?_
  refine lv_topi (fun x6 ex6 => ?_)
  have ex6 : x6 = nI bb := ex6.trans (h6)
  subst ex6
  refine g_r (Rs := [(h, .inr (11, [.int (v 0), .int (v 1), .int (v 2), .int (v 3), .int (v 4), .int (v 5), .int (v 6), .int (v 7), .int (v 8), .ref g, .int (nI mm)]))]) (C0 := [(bA, .inr (1, [.ref v10, .int 0, .int 0, .int (nI t10.length)])), (v10, .inl (Y.2.2.1.1, m10, .inl f10))]) (As := [.ref bA, .int (nI bb)]) hF hP hD hS XN_ok trivial (rV (As := [.int (nI bb)]) (rest := []) hF hl (c_J4_append_bf812 (t := t10) (k0 := bb) b6 hc10 (by have := hl10; show _ + 2 ≤ _; omega) _) (cwV 1 hC.2.1 (gi_V (gw_t (tb4 (List.mem_of_getElem? (i := 150) rfl)) rfl) (gw_t (tb4 (List.mem_of_getElem? (i := 151) rfl)) rfl) (gw_t (tb4 (List.mem_of_getElem? (i := 152) rfl)) rfl) (gw_t (tb1 (List.mem_of_getElem? (i := 12) rfl)) rfl) (gw_t (tb4 (List.mem_of_getElem? (i := 153) rfl)) rfl)) rfl rfl rfl ⟨rfl, by decide +kernel, by decide +kernel, by decide +kernel⟩ ⟨(Nat.le_of_ble_eq_true rfl), (Nat.le_of_ble_eq_true rfl)⟩) (va_recv hC.2.2.2.1 hP (q0 := 1) rfl rfl) rfl rfl (Nat.le_of_ble_eq_true rfl) dX9_text_103 ⟨(Nat.le_of_ble_eq_true rfl), (Nat.le_of_ble_eq_true rfl)⟩) (fun r11 u11 H locs hp11 hP hD hS => ?_)
  obtain ⟨hr11, hc11⟩ := hp11
  have hr11 : bA = r11 := hr11.symm
  subst hr11
  obtain ⟨v11, m11, f11⟩ := u11
  obtain ⟨t11, et11⟩ : ∃ x, x = t10 ++ dg bb := ⟨_, rfl⟩
  have hc11 : CT (t10 ++ dg bb) m11 f11 := hc11
  rw [← et11] at hP hD hc11
  have hl11 : t11.length ≤ 64 := by
    rw [et11, List.length_append]
    have := dg_ln bb; have := hl10; omega
  have hP : va_P D vwCl ([(h, .inr (11, [.int (v 0), .int (v 1), .int (v 2), .int (v 3), .int (v 4), .int (v 5), .int (v 6), .int (v 7), .int (v 8), .ref g, .int (nI mm)])), (bA, .inr (1, [.ref v11, .int 0, .int 0, .int (nI t11.length)])), (v11, .inl (Y.2.2.1.1, m11, .inl f11))]) H := hP
  have hD : va_D A ([(h, .inr (11, [.int (v 0), .int (v 1), .int (v 2), .int (v 3), .int (v 4), .int (v 5), .int (v 6), .int (v 7), .int (v 8), .ref g, .int (nI mm)])), (bA, .inr (1, [.ref v11, .int 0, .int 0, .int (nI t11.length)])), (v11, .inl (Y.2.2.1.1, m11, .inl f11))]) := hD
  obtain ⟨a12, w12, hR12, hST12⟩ := hSW.1 _ (List.mem_of_getElem? (i := 8) rfl)
  refine va_ldcS hx hb hC.2.2.1 hR12 dX9_text_106 ?_
  refine g_r (Rs := [(h, .inr (11, [.int (v 0), .int (v 1), .int (v 2), .int (v 3), .int (v 4), .int (v 5), .int (v 6), .int (v 7), .int (v 8), .ref g, .int (nI mm)]))]) (C0 := [(bA, .inr (1, [.ref v11, .int 0, .int 0, .int (nI t11.length)])), (v11, .inl (Y.2.2.1.1, m11, .inl f11))]) (As := [.ref bA, .ref a12]) hF hP hD hS STA_ok (X_at (Rs := [(h, .inr (11, [.int (v 0), .int (v 1), .int (v 2), .int (v 3), .int (v 4), .int (v 5), .int (v 6), .int (v 7), .int (v 8), .ref g, .int (nI mm)]))]) (C0 := [(bA, .inr (1, [.ref v11, .int 0, .int 0, .int (nI t11.length)])), (v11, .inl (Y.2.2.1.1, m11, .inl f11))]) STA_ok hF hST12 hD hS) (rV (As := [.ref a12]) (rest := []) hF hl (c_J4_append_15ec4 (t := t11) (w := wN6) hc11 rfl (by have := hl11; show _ + 30 ≤ _; omega) sbw_6 _) (cwV 1 hC.2.1 (gi_V (gw_t (tb4 (List.mem_of_getElem? (i := 32) rfl)) rfl) (gw_t (tb4 (List.mem_of_getElem? (i := 33) rfl)) rfl) (gw_t (tb4 (List.mem_of_getElem? (i := 34) rfl)) rfl) (gw_t (tb1 (List.mem_of_getElem? (i := 12) rfl)) rfl) (gw_t (tb4 (List.mem_of_getElem? (i := 35) rfl)) rfl)) rfl rfl rfl ⟨rfl, by decide +kernel, by decide +kernel, by decide +kernel⟩ ⟨(Nat.le_of_ble_eq_true rfl), (Nat.le_of_ble_eq_true rfl)⟩) (va_recv hC.2.2.2.1 hP (q0 := 1) rfl rfl) rfl rfl (Nat.le_of_ble_eq_true rfl) dX9_text_108 ⟨(Nat.le_of_ble_eq_true rfl), (Nat.le_of_ble_eq_true rfl)⟩) (fun r12 u12 H locs hp12 hP hD hS => ?_)
  obtain ⟨hr12, hc12⟩ := hp12
  have hr12 : bA = r12 := hr12.symm
  subst hr12
  obtain ⟨v12, m12, f12⟩ := u12
  obtain ⟨t12, et12⟩ : ∃ x, x = t11 ++ wN6 := ⟨_, rfl⟩
  have hc12 : CT (t11 ++ wN6) m12 f12 := hc12
  rw [← et12] at hP hD hc12
  have hl12 : t12.length ≤ 94 := by
    rw [et12, List.length_append]
    have := hl11; show _ + 30 ≤ _; omega
  have hP : va_P D vwCl ([(h, .inr (11, [.int (v 0), .int (v 1), .int (v 2), .int (v 3), .int (v 4), .int (v 5), .int (v 6), .int (v 7), .int (v 8), .ref g, .int (nI mm)])), (bA, .inr (1, [.ref v12, .int 0, .int 0, .int (nI t12.length)])), (v12, .inl (Y.2.2.1.1, m12, .inl f12))]) H := hP
  have hD : va_D A ([(h, .inr (11, [.int (v 0), .int (v 1), .int (v 2), .int (v 3), .int (v 4), .int (v 5), .int (v 6), .int (v 7), .int (v 8), .ref g, .int (nI mm)])), (bA, .inr (1, [.ref v12, .int 0, .int 0, .int (nI t12.length)])), (v12, .inl (Y.2.2.1.1, m12, .inl f12))]) := hD
  refine lv_aload_n hx hb dX9_text_111 rfl (lv_at hl 0 rfl) ?_
  refine n_get hC hb hP inGX9 0 rfl rfl 7 (by decide) rfl (gw_t (tb3 (List.mem_of_getElem? (i := 209) rfl)) rfl) rfl dX9_text_112 ?_
  refine lv_topi (fun x7 ex7 => ?_)
  have ex7 : x7 = nI gg := ex7.trans (h7)
  subst ex7
  refine lv_if_ge (tgt := 123) hx hb dX9_text_115 (by decide) (fun c8 => ?_) (fun c8 => False.elim (c8 (nI_pos' (by omega))))
  refine n_new (ci := 1) (fs := [.null, .int 0, .int 0, .int 0]) hC hb inGJ4 tyJ4 tyJ4_ok (gw_t (tb4 (List.mem_of_getElem? (i := 0) rfl)) rfl) (gw_t (tb4 (List.mem_of_getElem? (i := 1) rfl)) rfl) (gw_t (tb1 (List.mem_of_getElem? (i := 12) rfl)) rfl) hP hD hS hA rfl (fun j hj => match j, hj with | 0, _ => rfl | 1, _ => rfl | 2, _ => rfl | 3, _ => rfl | n + 4, h => absurd h (by omega)) (Nat.le_of_ble_eq_true rfl) (Nat.le_of_ble_eq_true rfl) dX9_text_123 (fun bG H hP hD hS => ?_)
  have hP : va_P D vwCl ([(h, .inr (11, [.int (v 0), .int (v 1), .int (v 2), .int (v 3), .int (v 4), .int (v 5), .int (v 6), .int (v 7), .int (v 8), .ref g, .int (nI mm)])), (bA, .inr (1, [.ref v12, .int 0, .int 0, .int (nI t12.length)])), (v12, .inl (Y.2.2.1.1, m12, .inl f12)), (bG, .inr (1, [.null, .int 0, .int 0, .int 0]))]) H := hP
  have hD : va_D A ([(h, .inr (11, [.int (v 0), .int (v 1), .int (v 2), .int (v 3), .int (v 4), .int (v 5), .int (v 6), .int (v 7), .int (v 8), .ref g, .int (nI mm)])), (bA, .inr (1, [.ref v12, .int 0, .int 0, .int (nI t12.length)])), (v12, .inl (Y.2.2.1.1, m12, .inl f12)), (bG, .inr (1, [.null, .int 0, .int 0, .int 0]))]) := hD
  refine lv_dup hx hb dX9_text_126 rfl ?_
  refine g_v (Rs := [(h, .inr (11, [.int (v 0), .int (v 1), .int (v 2), .int (v 3), .int (v 4), .int (v 5), .int (v 6), .int (v 7), .int (v 8), .ref g, .int (nI mm)])), (bA, .inr (1, [.ref v12, .int 0, .int 0, .int (nI t12.length)])), (v12, .inl (Y.2.2.1.1, m12, .inl f12))]) (C0 := [(bG, .inr (1, [.null, .int 0, .int 0, .int 0]))]) (As := [.ref bG]) hF hP hD hS XN_ok trivial (rI (As := []) (rest := [.ref bG, .ref bA]) hF hl (c_J4_init_da8c8 _) (cwI 0 hC.2.1 (gi_law (gw_t (tb4 (List.mem_of_getElem? (i := 4) rfl)) rfl)) rfl rfl rfl (hC.2.1 (Cond.initialized RJ4) (gw_t (tb1 (List.mem_of_getElem? (i := 12) rfl)) rfl)) (hC.2.1 (Cond.methodLink RX9 57 yJ4_init_da8c8) (gw_t (tb4 (List.mem_of_getElem? (i := 2) rfl)) rfl)) (hC.2.1 (Cond.instanceMethod yJ4_init_da8c8) (gw_t (tb4 (List.mem_of_getElem? (i := 3) rfl)) rfl)) rfl (by decide +kernel) ⟨(Nat.le_of_ble_eq_true rfl), (Nat.le_of_ble_eq_true rfl)⟩) rfl rfl (Nat.le_of_ble_eq_true rfl) dX9_text_127 ⟨(Nat.le_of_ble_eq_true rfl), (Nat.le_of_ble_eq_true rfl)⟩) (fun bGv H locs hp hP hD hS => ?_)
  have hP : va_P D vwCl ([(h, .inr (11, [.int (v 0), .int (v 1), .int (v 2), .int (v 3), .int (v 4), .int (v 5), .int (v 6), .int (v 7), .int (v 8), .ref g, .int (nI mm)])), (bA, .inr (1, [.ref v12, .int 0, .int 0, .int (nI t12.length)])), (v12, .inl (Y.2.2.1.1, m12, .inl f12)), (bG, .inr (1, [.ref bGv, .int 0, .int 0, .int (nI ([] : List Nat).length)])), (bGv, .inl (Y.2.2.1.1, 16, .inl (fun _ => 0)))]) H := hP
  have hD : va_D A ([(h, .inr (11, [.int (v 0), .int (v 1), .int (v 2), .int (v 3), .int (v 4), .int (v 5), .int (v 6), .int (v 7), .int (v 8), .ref g, .int (nI mm)])), (bA, .inr (1, [.ref v12, .int 0, .int 0, .int (nI t12.length)])), (v12, .inl (Y.2.2.1.1, m12, .inl f12)), (bG, .inr (1, [.ref bGv, .int 0, .int 0, .int (nI ([] : List Nat).length)])), (bGv, .inl (Y.2.2.1.1, 16, .inl (fun _ => 0)))]) := hD
  obtain ⟨a13, w13, hR13, hST13⟩ := hSW.1 _ (List.mem_of_getElem? (i := 9) rfl)
  refine va_ldcS hx hb hC.2.2.1 hR13 dX9_text_130 ?_
  refine g_r (Rs := [(h, .inr (11, [.int (v 0), .int (v 1), .int (v 2), .int (v 3), .int (v 4), .int (v 5), .int (v 6), .int (v 7), .int (v 8), .ref g, .int (nI mm)])), (bA, .inr (1, [.ref v12, .int 0, .int 0, .int (nI t12.length)])), (v12, .inl (Y.2.2.1.1, m12, .inl f12))]) (C0 := [(bG, .inr (1, [.ref bGv, .int 0, .int 0, .int (nI ([] : List Nat).length)])), (bGv, .inl (Y.2.2.1.1, 16, .inl (fun _ => 0)))]) (As := [.ref bG, .ref a13]) hF hP hD hS STA_ok (X_at (Rs := [(h, .inr (11, [.int (v 0), .int (v 1), .int (v 2), .int (v 3), .int (v 4), .int (v 5), .int (v 6), .int (v 7), .int (v 8), .ref g, .int (nI mm)])), (bA, .inr (1, [.ref v12, .int 0, .int 0, .int (nI t12.length)])), (v12, .inl (Y.2.2.1.1, m12, .inl f12))]) (C0 := [(bG, .inr (1, [.ref bGv, .int 0, .int 0, .int (nI ([] : List Nat).length)])), (bGv, .inl (Y.2.2.1.1, 16, .inl (fun _ => 0)))]) STA_ok hF hST13 hD hS) (rV (As := [.ref a13]) (rest := [.ref bA]) hF hl (c_J4_append_15ec4 (t := ([] : List Nat)) (w := wN7) CT_nil rfl (by decide) sbw_7 _) (cwV 1 hC.2.1 (gi_V (gw_t (tb4 (List.mem_of_getElem? (i := 32) rfl)) rfl) (gw_t (tb4 (List.mem_of_getElem? (i := 33) rfl)) rfl) (gw_t (tb4 (List.mem_of_getElem? (i := 34) rfl)) rfl) (gw_t (tb1 (List.mem_of_getElem? (i := 12) rfl)) rfl) (gw_t (tb4 (List.mem_of_getElem? (i := 35) rfl)) rfl)) rfl rfl rfl ⟨rfl, by decide +kernel, by decide +kernel, by decide +kernel⟩ ⟨(Nat.le_of_ble_eq_true rfl), (Nat.le_of_ble_eq_true rfl)⟩) (va_recv hC.2.2.2.1 hP (q0 := 3) rfl rfl) rfl rfl (Nat.le_of_ble_eq_true rfl) dX9_text_132 ⟨(Nat.le_of_ble_eq_true rfl), (Nat.le_of_ble_eq_true rfl)⟩) (fun r13 u13 H locs hp13 hP hD hS => ?_)
  obtain ⟨hr13, hc13⟩ := hp13
  have hr13 : bG = r13 := hr13.symm
  subst hr13
  obtain ⟨v13, m13, f13⟩ := u13
  obtain ⟨t13, et13⟩ : ∃ x, x = ([] : List Nat) ++ wN7 := ⟨_, rfl⟩
  have hc13 : CT (([] : List Nat) ++ wN7) m13 f13 := hc13
  rw [← et13] at hP hD hc13
  have hl13 : t13.length ≤ 10 := by
    rw [et13, List.length_append]
    decide
  have hP : va_P D vwCl ([(h, .inr (11, [.int (v 0), .int (v 1), .int (v 2), .int (v 3), .int (v 4), .int (v 5), .int (v 6), .int (v 7), .int (v 8), .ref g, .int (nI mm)])), (bA, .inr (1, [.ref v12, .int 0, .int 0, .int (nI t12.length)])), (v12, .inl (Y.2.2.1.1, m12, .inl f12)), (bG, .inr (1, [.ref v13, .int 0, .int 0, .int (nI t13.length)])), (v13, .inl (Y.2.2.1.1, m13, .inl f13))]) H := hP
  have hD : va_D A ([(h, .inr (11, [.int (v 0), .int (v 1), .int (v 2), .int (v 3), .int (v 4), .int (v 5), .int (v 6), .int (v 7), .int (v 8), .ref g, .int (nI mm)])), (bA, .inr (1, [.ref v12, .int 0, .int 0, .int (nI t12.length)])), (v12, .inl (Y.2.2.1.1, m12, .inl f12)), (bG, .inr (1, [.ref v13, .int 0, .int 0, .int (nI t13.length)])), (v13, .inl (Y.2.2.1.1, m13, .inl f13))]) := hD
  have hz13 : ∀ x ∈ t13, x < 128 := by rw [et13]; exact ap128 (fun x hx => absurd hx List.not_mem_nil) w128_7
  refine lv_aload_n hx hb dX9_text_135 rfl (lv_at hl 0 rfl) ?_
  refine n_get hC hb hP inGX9 0 rfl rfl 7 (by decide) rfl (gw_t (tb3 (List.mem_of_getElem? (i := 209) rfl)) rfl) rfl dX9_text_136 ?_
  refine lv_topi (fun x9 ex9 => ?_)
  have ex9 : x9 = nI gg := ex9.trans (h7)
  subst ex9
  refine g_r (Rs := [(h, .inr (11, [.int (v 0), .int (v 1), .int (v 2), .int (v 3), .int (v 4), .int (v 5), .int (v 6), .int (v 7), .int (v 8), .ref g, .int (nI mm)])), (bA, .inr (1, [.ref v12, .int 0, .int 0, .int (nI t12.length)])), (v12, .inl (Y.2.2.1.1, m12, .inl f12))]) (C0 := [(bG, .inr (1, [.ref v13, .int 0, .int 0, .int (nI t13.length)])), (v13, .inl (Y.2.2.1.1, m13, .inl f13))]) (As := [.ref bG, .int (nI gg)]) hF hP hD hS XN_ok trivial (rV (As := [.int (nI gg)]) (rest := [.ref bA]) hF hl (c_J4_append_bf812 (t := t13) (k0 := gg) b7 hc13 (by have := hl13; show _ + 2 ≤ _; omega) _) (cwV 1 hC.2.1 (gi_V (gw_t (tb4 (List.mem_of_getElem? (i := 150) rfl)) rfl) (gw_t (tb4 (List.mem_of_getElem? (i := 151) rfl)) rfl) (gw_t (tb4 (List.mem_of_getElem? (i := 152) rfl)) rfl) (gw_t (tb1 (List.mem_of_getElem? (i := 12) rfl)) rfl) (gw_t (tb4 (List.mem_of_getElem? (i := 153) rfl)) rfl)) rfl rfl rfl ⟨rfl, by decide +kernel, by decide +kernel, by decide +kernel⟩ ⟨(Nat.le_of_ble_eq_true rfl), (Nat.le_of_ble_eq_true rfl)⟩) (va_recv hC.2.2.2.1 hP (q0 := 3) rfl rfl) rfl rfl (Nat.le_of_ble_eq_true rfl) dX9_text_139 ⟨(Nat.le_of_ble_eq_true rfl), (Nat.le_of_ble_eq_true rfl)⟩) (fun r14 u14 H locs hp14 hP hD hS => ?_)
  obtain ⟨hr14, hc14⟩ := hp14
  have hr14 : bG = r14 := hr14.symm
  subst hr14
  obtain ⟨v14, m14, f14⟩ := u14
  obtain ⟨t14, et14⟩ : ∃ x, x = t13 ++ dg gg := ⟨_, rfl⟩
  have hc14 : CT (t13 ++ dg gg) m14 f14 := hc14
  rw [← et14] at hP hD hc14
  have hl14 : t14.length ≤ 12 := by
    rw [et14, List.length_append]
    have := dg_ln gg; have := hl13; omega
  have hP : va_P D vwCl ([(h, .inr (11, [.int (v 0), .int (v 1), .int (v 2), .int (v 3), .int (v 4), .int (v 5), .int (v 6), .int (v 7), .int (v 8), .ref g, .int (nI mm)])), (bA, .inr (1, [.ref v12, .int 0, .int 0, .int (nI t12.length)])), (v12, .inl (Y.2.2.1.1, m12, .inl f12)), (bG, .inr (1, [.ref v14, .int 0, .int 0, .int (nI t14.length)])), (v14, .inl (Y.2.2.1.1, m14, .inl f14))]) H := hP
  have hD : va_D A ([(h, .inr (11, [.int (v 0), .int (v 1), .int (v 2), .int (v 3), .int (v 4), .int (v 5), .int (v 6), .int (v 7), .int (v 8), .ref g, .int (nI mm)])), (bA, .inr (1, [.ref v12, .int 0, .int 0, .int (nI t12.length)])), (v12, .inl (Y.2.2.1.1, m12, .inl f12)), (bG, .inr (1, [.ref v14, .int 0, .int 0, .int (nI t14.length)])), (v14, .inl (Y.2.2.1.1, m14, .inl f14))]) := hD
  have hz14 : ∀ x ∈ t14, x < 128 := by rw [et14]; exact ap128 hz13 (dg128 b7)
  obtain ⟨a15, w15, hR15, hST15⟩ := hSW.1 _ (List.mem_of_getElem? (i := 10) rfl)
  refine va_ldcS hx hb hC.2.2.1 hR15 dX9_text_142 ?_
  refine g_r (Rs := [(h, .inr (11, [.int (v 0), .int (v 1), .int (v 2), .int (v 3), .int (v 4), .int (v 5), .int (v 6), .int (v 7), .int (v 8), .ref g, .int (nI mm)])), (bA, .inr (1, [.ref v12, .int 0, .int 0, .int (nI t12.length)])), (v12, .inl (Y.2.2.1.1, m12, .inl f12))]) (C0 := [(bG, .inr (1, [.ref v14, .int 0, .int 0, .int (nI t14.length)])), (v14, .inl (Y.2.2.1.1, m14, .inl f14))]) (As := [.ref bG, .ref a15]) hF hP hD hS STA_ok (X_at (Rs := [(h, .inr (11, [.int (v 0), .int (v 1), .int (v 2), .int (v 3), .int (v 4), .int (v 5), .int (v 6), .int (v 7), .int (v 8), .ref g, .int (nI mm)])), (bA, .inr (1, [.ref v12, .int 0, .int 0, .int (nI t12.length)])), (v12, .inl (Y.2.2.1.1, m12, .inl f12))]) (C0 := [(bG, .inr (1, [.ref v14, .int 0, .int 0, .int (nI t14.length)])), (v14, .inl (Y.2.2.1.1, m14, .inl f14))]) STA_ok hF hST15 hD hS) (rV (As := [.ref a15]) (rest := [.ref bA]) hF hl (c_J4_append_15ec4 (t := t14) (w := wN8) hc14 rfl (by have := hl14; show _ + 12 ≤ _; omega) sbw_8 _) (cwV 1 hC.2.1 (gi_V (gw_t (tb4 (List.mem_of_getElem? (i := 32) rfl)) rfl) (gw_t (tb4 (List.mem_of_getElem? (i := 33) rfl)) rfl) (gw_t (tb4 (List.mem_of_getElem? (i := 34) rfl)) rfl) (gw_t (tb1 (List.mem_of_getElem? (i := 12) rfl)) rfl) (gw_t (tb4 (List.mem_of_getElem? (i := 35) rfl)) rfl)) rfl rfl rfl ⟨rfl, by decide +kernel, by decide +kernel, by decide +kernel⟩ ⟨(Nat.le_of_ble_eq_true rfl), (Nat.le_of_ble_eq_true rfl)⟩) (va_recv hC.2.2.2.1 hP (q0 := 3) rfl rfl) rfl rfl (Nat.le_of_ble_eq_true rfl) dX9_text_144 ⟨(Nat.le_of_ble_eq_true rfl), (Nat.le_of_ble_eq_true rfl)⟩) (fun r15 u15 H locs hp15 hP hD hS => ?_)
  obtain ⟨hr15, hc15⟩ := hp15
  have hr15 : bG = r15 := hr15.symm
  subst hr15
  obtain ⟨v15, m15, f15⟩ := u15
  obtain ⟨t15, et15⟩ : ∃ x, x = t14 ++ wN8 := ⟨_, rfl⟩
  have hc15 : CT (t14 ++ wN8) m15 f15 := hc15
  rw [← et15] at hP hD hc15
  have hl15 : t15.length ≤ 24 := by
    rw [et15, List.length_append]
    have := hl14; show _ + 12 ≤ _; omega
  have hP : va_P D vwCl ([(h, .inr (11, [.int (v 0), .int (v 1), .int (v 2), .int (v 3), .int (v 4), .int (v 5), .int (v 6), .int (v 7), .int (v 8), .ref g, .int (nI mm)])), (bA, .inr (1, [.ref v12, .int 0, .int 0, .int (nI t12.length)])), (v12, .inl (Y.2.2.1.1, m12, .inl f12)), (bG, .inr (1, [.ref v15, .int 0, .int 0, .int (nI t15.length)])), (v15, .inl (Y.2.2.1.1, m15, .inl f15))]) H := hP
  have hD : va_D A ([(h, .inr (11, [.int (v 0), .int (v 1), .int (v 2), .int (v 3), .int (v 4), .int (v 5), .int (v 6), .int (v 7), .int (v 8), .ref g, .int (nI mm)])), (bA, .inr (1, [.ref v12, .int 0, .int 0, .int (nI t12.length)])), (v12, .inl (Y.2.2.1.1, m12, .inl f12)), (bG, .inr (1, [.ref v15, .int 0, .int 0, .int (nI t15.length)])), (v15, .inl (Y.2.2.1.1, m15, .inl f15))]) := hD
  have hz15 : ∀ x ∈ t15, x < 128 := by rw [et15]; exact ap128 hz14 w128_8
  refine g_r (Rs := [(h, .inr (11, [.int (v 0), .int (v 1), .int (v 2), .int (v 3), .int (v 4), .int (v 5), .int (v 6), .int (v 7), .int (v 8), .ref g, .int (nI mm)])), (bA, .inr (1, [.ref v12, .int 0, .int 0, .int (nI t12.length)])), (v12, .inl (Y.2.2.1.1, m12, .inl f12))]) (C0 := [(bG, .inr (1, [.ref v15, .int 0, .int 0, .int (nI t15.length)])), (v15, .inl (Y.2.2.1.1, m15, .inl f15))]) (As := [.ref bG]) hF hP hD hS XN_ok trivial (rV (As := []) (rest := [.ref bA]) hF hl (c_J4_toString_0e30d hc15 _) (cwV 0 hC.2.1 (gi_V (gw_t (tb4 (List.mem_of_getElem? (i := 178) rfl)) rfl) (gw_t (tb4 (List.mem_of_getElem? (i := 179) rfl)) rfl) (gw_t (tb4 (List.mem_of_getElem? (i := 180) rfl)) rfl) (gw_t (tb1 (List.mem_of_getElem? (i := 12) rfl)) rfl) (gw_t (tb4 (List.mem_of_getElem? (i := 181) rfl)) rfl)) rfl rfl rfl ⟨rfl, by decide +kernel, by decide +kernel, by decide +kernel⟩ ⟨(Nat.le_of_ble_eq_true rfl), (Nat.le_of_ble_eq_true rfl)⟩) (va_recv hC.2.2.2.1 hP (q0 := 3) rfl rfl) rfl rfl (Nat.le_of_ble_eq_true rfl) dX9_text_147 ⟨(Nat.le_of_ble_eq_true rfl), (Nat.le_of_ble_eq_true rfl)⟩) (fun r16 u16 H locs hp16 hP hD hS => ?_)
  obtain ⟨v16, f16⟩ := u16
  obtain ⟨hb16, hg16⟩ := hp16
  have hb16 : FB f16 := hb16
  have hg16 : ∀ j, j < t15.length → f16 j = nI (t15.getD j 0) := hg16
  have hP : va_P D vwCl ([(h, .inr (11, [.int (v 0), .int (v 1), .int (v 2), .int (v 3), .int (v 4), .int (v 5), .int (v 6), .int (v 7), .int (v 8), .ref g, .int (nI mm)])), (bA, .inr (1, [.ref v12, .int 0, .int 0, .int (nI t12.length)])), (v12, .inl (Y.2.2.1.1, m12, .inl f12)), (r16, .inr (0, [.ref v16, .int 0, .int 0, .int 0])), (v16, .inl (Y.2.2.1.1, t15.length, .inl f16))]) H := hP
  have hD : va_D A ([(h, .inr (11, [.int (v 0), .int (v 1), .int (v 2), .int (v 3), .int (v 4), .int (v 5), .int (v 6), .int (v 7), .int (v 8), .ref g, .int (nI mm)])), (bA, .inr (1, [.ref v12, .int 0, .int 0, .int (nI t12.length)])), (v12, .inl (Y.2.2.1.1, m12, .inl f12)), (r16, .inr (0, [.ref v16, .int 0, .int 0, .int 0])), (v16, .inl (Y.2.2.1.1, t15.length, .inl f16))]) := hD
  have hP : va_P D vwCl ([(h, .inr (11, [.int (v 0), .int (v 1), .int (v 2), .int (v 3), .int (v 4), .int (v 5), .int (v 6), .int (v 7), .int (v 8), .ref g, .int (nI mm)])), (r16, .inr (0, [.ref v16, .int 0, .int 0, .int 0])), (v16, .inl (Y.2.2.1.1, t15.length, .inl f16)), (bA, .inr (1, [.ref v12, .int 0, .int 0, .int (nI t12.length)])), (v12, .inl (Y.2.2.1.1, m12, .inl f12))]) H := hP.sub [0, 3, 4, 1, 2] rfl
  have hD : va_D A ([(h, .inr (11, [.int (v 0), .int (v 1), .int (v 2), .int (v 3), .int (v 4), .int (v 5), .int (v 6), .int (v 7), .int (v 8), .ref g, .int (nI mm)])), (r16, .inr (0, [.ref v16, .int 0, .int 0, .int 0])), (v16, .inl (Y.2.2.1.1, t15.length, .inl f16)), (bA, .inr (1, [.ref v12, .int 0, .int 0, .int (nI t12.length)])), (v12, .inl (Y.2.2.1.1, m12, .inl f12))]) := hD.sub [0, 3, 4, 1, 2] (by decide) rfl
  refine g_r (Rs := [(h, .inr (11, [.int (v 0), .int (v 1), .int (v 2), .int (v 3), .int (v 4), .int (v 5), .int (v 6), .int (v 7), .int (v 8), .ref g, .int (nI mm)])), (r16, .inr (0, [.ref v16, .int 0, .int 0, .int 0])), (v16, .inl (Y.2.2.1.1, t15.length, .inl f16))]) (C0 := [(bA, .inr (1, [.ref v12, .int 0, .int 0, .int (nI t12.length)])), (v12, .inl (Y.2.2.1.1, m12, .inl f12))]) (As := [.ref bA, .ref r16]) hF hP hD hS STA_ok (sta_of (Rs := [(h, .inr (11, [.int (v 0), .int (v 1), .int (v 2), .int (v 3), .int (v 4), .int (v 5), .int (v 6), .int (v 7), .int (v 8), .ref g, .int (nI mm)])), (r16, .inr (0, [.ref v16, .int 0, .int 0, .int 0])), (v16, .inl (Y.2.2.1.1, t15.length, .inl f16))]) (C0 := [(bA, .inr (1, [.ref v12, .int 0, .int 0, .int (nI t12.length)])), (v12, .inl (Y.2.2.1.1, m12, .inl f12))]) hC hP hD 1 2 rfl rfl) (rV (As := [.ref r16]) (rest := []) hF hl (c_J4_append_15ec4 (t := t12) (w := t15) hc12 rfl (by have := hl12; have := hl15; omega) (sb_of hg16 hz15) _) (cwV 1 hC.2.1 (gi_V (gw_t (tb4 (List.mem_of_getElem? (i := 32) rfl)) rfl) (gw_t (tb4 (List.mem_of_getElem? (i := 33) rfl)) rfl) (gw_t (tb4 (List.mem_of_getElem? (i := 34) rfl)) rfl) (gw_t (tb1 (List.mem_of_getElem? (i := 12) rfl)) rfl) (gw_t (tb4 (List.mem_of_getElem? (i := 35) rfl)) rfl)) rfl rfl rfl ⟨rfl, by decide +kernel, by decide +kernel, by decide +kernel⟩ ⟨(Nat.le_of_ble_eq_true rfl), (Nat.le_of_ble_eq_true rfl)⟩) (va_recv hC.2.2.2.1 hP (q0 := 3) rfl rfl) rfl rfl (Nat.le_of_ble_eq_true rfl) dX9_text_150 ⟨(Nat.le_of_ble_eq_true rfl), (Nat.le_of_ble_eq_true rfl)⟩) (fun r17 u17 H locs hp17 hP hD hS => ?_)
  obtain ⟨hr17, hc17⟩ := hp17
  have hr17 : bA = r17 := hr17.symm
  subst hr17
  obtain ⟨v17, m17, f17⟩ := u17
  obtain ⟨t17, et17⟩ : ∃ x, x = t12 ++ t15 := ⟨_, rfl⟩
  have hc17 : CT (t12 ++ t15) m17 f17 := hc17
  rw [← et17] at hP hD hc17
  have hl17 : t17.length ≤ 118 := by
    rw [et17, List.length_append]
    have := hl12; have := hl15; omega
  have hP : va_P D vwCl ([(h, .inr (11, [.int (v 0), .int (v 1), .int (v 2), .int (v 3), .int (v 4), .int (v 5), .int (v 6), .int (v 7), .int (v 8), .ref g, .int (nI mm)])), (r16, .inr (0, [.ref v16, .int 0, .int 0, .int 0])), (v16, .inl (Y.2.2.1.1, t15.length, .inl f16)), (bA, .inr (1, [.ref v17, .int 0, .int 0, .int (nI t17.length)])), (v17, .inl (Y.2.2.1.1, m17, .inl f17))]) H := hP
  have hD : va_D A ([(h, .inr (11, [.int (v 0), .int (v 1), .int (v 2), .int (v 3), .int (v 4), .int (v 5), .int (v 6), .int (v 7), .int (v 8), .ref g, .int (nI mm)])), (r16, .inr (0, [.ref v16, .int 0, .int 0, .int 0])), (v16, .inl (Y.2.2.1.1, t15.length, .inl f16)), (bA, .inr (1, [.ref v17, .int 0, .int 0, .int (nI t17.length)])), (v17, .inl (Y.2.2.1.1, m17, .inl f17))]) := hD
  have hP : va_P D vwCl ([(h, .inr (11, [.int (v 0), .int (v 1), .int (v 2), .int (v 3), .int (v 4), .int (v 5), .int (v 6), .int (v 7), .int (v 8), .ref g, .int (nI mm)])), (bA, .inr (1, [.ref v17, .int 0, .int 0, .int (nI t17.length)])), (v17, .inl (Y.2.2.1.1, m17, .inl f17))]) H := hP.sub [0, 3, 4] rfl
  have hD : va_D A ([(h, .inr (11, [.int (v 0), .int (v 1), .int (v 2), .int (v 3), .int (v 4), .int (v 5), .int (v 6), .int (v 7), .int (v 8), .ref g, .int (nI mm)])), (bA, .inr (1, [.ref v17, .int 0, .int 0, .int (nI t17.length)])), (v17, .inl (Y.2.2.1.1, m17, .inl f17))]) := hD.sub [0, 3, 4] (by decide) rfl
  obtain ⟨a18, w18, hR18, hST18⟩ := hSW.1 _ (List.mem_of_getElem? (i := 11) rfl)
  refine va_ldcS hx hb hC.2.2.1 hR18 dX9_text_153 ?_
  refine g_r (Rs := [(h, .inr (11, [.int (v 0), .int (v 1), .int (v 2), .int (v 3), .int (v 4), .int (v 5), .int (v 6), .int (v 7), .int (v 8), .ref g, .int (nI mm)]))]) (C0 := [(bA, .inr (1, [.ref v17, .int 0, .int 0, .int (nI t17.length)])), (v17, .inl (Y.2.2.1.1, m17, .inl f17))]) (As := [.ref bA, .ref a18]) hF hP hD hS STA_ok (X_at (Rs := [(h, .inr (11, [.int (v 0), .int (v 1), .int (v 2), .int (v 3), .int (v 4), .int (v 5), .int (v 6), .int (v 7), .int (v 8), .ref g, .int (nI mm)]))]) (C0 := [(bA, .inr (1, [.ref v17, .int 0, .int 0, .int (nI t17.length)])), (v17, .inl (Y.2.2.1.1, m17, .inl f17))]) STA_ok hF hST18 hD hS) (rV (As := [.ref a18]) (rest := []) hF hl (c_J4_append_15ec4 (t := t17) (w := wN9) hc17 rfl (by have := hl17; show _ + 18 ≤ _; omega) sbw_9 _) (cwV 1 hC.2.1 (gi_V (gw_t (tb4 (List.mem_of_getElem? (i := 32) rfl)) rfl) (gw_t (tb4 (List.mem_of_getElem? (i := 33) rfl)) rfl) (gw_t (tb4 (List.mem_of_getElem? (i := 34) rfl)) rfl) (gw_t (tb1 (List.mem_of_getElem? (i := 12) rfl)) rfl) (gw_t (tb4 (List.mem_of_getElem? (i := 35) rfl)) rfl)) rfl rfl rfl ⟨rfl, by decide +kernel, by decide +kernel, by decide +kernel⟩ ⟨(Nat.le_of_ble_eq_true rfl), (Nat.le_of_ble_eq_true rfl)⟩) (va_recv hC.2.2.2.1 hP (q0 := 1) rfl rfl) rfl rfl (Nat.le_of_ble_eq_true rfl) dX9_text_155 ⟨(Nat.le_of_ble_eq_true rfl), (Nat.le_of_ble_eq_true rfl)⟩) (fun r18 u18 H locs hp18 hP hD hS => ?_)
  obtain ⟨hr18, hc18⟩ := hp18
  have hr18 : bA = r18 := hr18.symm
  subst hr18
  obtain ⟨v18, m18, f18⟩ := u18
  obtain ⟨t18, et18⟩ : ∃ x, x = t17 ++ wN9 := ⟨_, rfl⟩
  have hc18 : CT (t17 ++ wN9) m18 f18 := hc18
  rw [← et18] at hP hD hc18
  have hl18 : t18.length ≤ 136 := by
    rw [et18, List.length_append]
    have := hl17; show _ + 18 ≤ _; omega
  have hP : va_P D vwCl ([(h, .inr (11, [.int (v 0), .int (v 1), .int (v 2), .int (v 3), .int (v 4), .int (v 5), .int (v 6), .int (v 7), .int (v 8), .ref g, .int (nI mm)])), (bA, .inr (1, [.ref v18, .int 0, .int 0, .int (nI t18.length)])), (v18, .inl (Y.2.2.1.1, m18, .inl f18))]) H := hP
  have hD : va_D A ([(h, .inr (11, [.int (v 0), .int (v 1), .int (v 2), .int (v 3), .int (v 4), .int (v 5), .int (v 6), .int (v 7), .int (v 8), .ref g, .int (nI mm)])), (bA, .inr (1, [.ref v18, .int 0, .int 0, .int (nI t18.length)])), (v18, .inl (Y.2.2.1.1, m18, .inl f18))]) := hD
  refine lv_aload_n hx hb dX9_text_158 rfl (lv_at hl 0 rfl) ?_
  refine n_get hC hb hP inGX9 0 rfl rfl 0 (by decide) rfl (gw_t (tb3 (List.mem_of_getElem? (i := 202) rfl)) rfl) rfl dX9_text_159 ?_
  refine lv_topi (fun x10 ex10 => ?_)
  have ex10 : x10 = nI n0 := ex10.trans (h0)
  subst ex10
  refine g_r (Rs := [(h, .inr (11, [.int (v 0), .int (v 1), .int (v 2), .int (v 3), .int (v 4), .int (v 5), .int (v 6), .int (v 7), .int (v 8), .ref g, .int (nI mm)]))]) (C0 := [(bA, .inr (1, [.ref v18, .int 0, .int 0, .int (nI t18.length)])), (v18, .inl (Y.2.2.1.1, m18, .inl f18))]) (As := [.ref bA, .int (nI n0)]) hF hP hD hS XN_ok trivial (rV (As := [.int (nI n0)]) (rest := []) hF hl (c_J4_append_bf812 (t := t18) (k0 := n0) b0 hc18 (by have := hl18; show _ + 2 ≤ _; omega) _) (cwV 1 hC.2.1 (gi_V (gw_t (tb4 (List.mem_of_getElem? (i := 150) rfl)) rfl) (gw_t (tb4 (List.mem_of_getElem? (i := 151) rfl)) rfl) (gw_t (tb4 (List.mem_of_getElem? (i := 152) rfl)) rfl) (gw_t (tb1 (List.mem_of_getElem? (i := 12) rfl)) rfl) (gw_t (tb4 (List.mem_of_getElem? (i := 153) rfl)) rfl)) rfl rfl rfl ⟨rfl, by decide +kernel, by decide +kernel, by decide +kernel⟩ ⟨(Nat.le_of_ble_eq_true rfl), (Nat.le_of_ble_eq_true rfl)⟩) (va_recv hC.2.2.2.1 hP (q0 := 1) rfl rfl) rfl rfl (Nat.le_of_ble_eq_true rfl) dX9_text_162 ⟨(Nat.le_of_ble_eq_true rfl), (Nat.le_of_ble_eq_true rfl)⟩) (fun r19 u19 H locs hp19 hP hD hS => ?_)
  obtain ⟨hr19, hc19⟩ := hp19
  have hr19 : bA = r19 := hr19.symm
  subst hr19
  obtain ⟨v19, m19, f19⟩ := u19
  obtain ⟨t19, et19⟩ : ∃ x, x = t18 ++ dg n0 := ⟨_, rfl⟩
  have hc19 : CT (t18 ++ dg n0) m19 f19 := hc19
  rw [← et19] at hP hD hc19
  have hl19 : t19.length ≤ 138 := by
    rw [et19, List.length_append]
    have := dg_ln n0; have := hl18; omega
  have hP : va_P D vwCl ([(h, .inr (11, [.int (v 0), .int (v 1), .int (v 2), .int (v 3), .int (v 4), .int (v 5), .int (v 6), .int (v 7), .int (v 8), .ref g, .int (nI mm)])), (bA, .inr (1, [.ref v19, .int 0, .int 0, .int (nI t19.length)])), (v19, .inl (Y.2.2.1.1, m19, .inl f19))]) H := hP
  have hD : va_D A ([(h, .inr (11, [.int (v 0), .int (v 1), .int (v 2), .int (v 3), .int (v 4), .int (v 5), .int (v 6), .int (v 7), .int (v 8), .ref g, .int (nI mm)])), (bA, .inr (1, [.ref v19, .int 0, .int 0, .int (nI t19.length)])), (v19, .inl (Y.2.2.1.1, m19, .inl f19))]) := hD
  obtain ⟨a20, w20, hR20, hST20⟩ := hSW.1 _ (List.mem_of_getElem? (i := 12) rfl)
  refine va_ldcS hx hb hC.2.2.1 hR20 dX9_text_165 ?_
  refine g_r (Rs := [(h, .inr (11, [.int (v 0), .int (v 1), .int (v 2), .int (v 3), .int (v 4), .int (v 5), .int (v 6), .int (v 7), .int (v 8), .ref g, .int (nI mm)]))]) (C0 := [(bA, .inr (1, [.ref v19, .int 0, .int 0, .int (nI t19.length)])), (v19, .inl (Y.2.2.1.1, m19, .inl f19))]) (As := [.ref bA, .ref a20]) hF hP hD hS STA_ok (X_at (Rs := [(h, .inr (11, [.int (v 0), .int (v 1), .int (v 2), .int (v 3), .int (v 4), .int (v 5), .int (v 6), .int (v 7), .int (v 8), .ref g, .int (nI mm)]))]) (C0 := [(bA, .inr (1, [.ref v19, .int 0, .int 0, .int (nI t19.length)])), (v19, .inl (Y.2.2.1.1, m19, .inl f19))]) STA_ok hF hST20 hD hS) (rV (As := [.ref a20]) (rest := []) hF hl (c_J4_append_15ec4 (t := t19) (w := wN10) hc19 rfl (by have := hl19; show _ + 4 ≤ _; omega) sbw_10 _) (cwV 1 hC.2.1 (gi_V (gw_t (tb4 (List.mem_of_getElem? (i := 32) rfl)) rfl) (gw_t (tb4 (List.mem_of_getElem? (i := 33) rfl)) rfl) (gw_t (tb4 (List.mem_of_getElem? (i := 34) rfl)) rfl) (gw_t (tb1 (List.mem_of_getElem? (i := 12) rfl)) rfl) (gw_t (tb4 (List.mem_of_getElem? (i := 35) rfl)) rfl)) rfl rfl rfl ⟨rfl, by decide +kernel, by decide +kernel, by decide +kernel⟩ ⟨(Nat.le_of_ble_eq_true rfl), (Nat.le_of_ble_eq_true rfl)⟩) (va_recv hC.2.2.2.1 hP (q0 := 1) rfl rfl) rfl rfl (Nat.le_of_ble_eq_true rfl) dX9_text_167 ⟨(Nat.le_of_ble_eq_true rfl), (Nat.le_of_ble_eq_true rfl)⟩) (fun r20 u20 H locs hp20 hP hD hS => ?_)
  obtain ⟨hr20, hc20⟩ := hp20
  have hr20 : bA = r20 := hr20.symm
  subst hr20
  obtain ⟨v20, m20, f20⟩ := u20
  obtain ⟨t20, et20⟩ : ∃ x, x = t19 ++ wN10 := ⟨_, rfl⟩
  have hc20 : CT (t19 ++ wN10) m20 f20 := hc20
  rw [← et20] at hP hD hc20
  have hl20 : t20.length ≤ 142 := by
    rw [et20, List.length_append]
    have := hl19; show _ + 4 ≤ _; omega
  have hP : va_P D vwCl ([(h, .inr (11, [.int (v 0), .int (v 1), .int (v 2), .int (v 3), .int (v 4), .int (v 5), .int (v 6), .int (v 7), .int (v 8), .ref g, .int (nI mm)])), (bA, .inr (1, [.ref v20, .int 0, .int 0, .int (nI t20.length)])), (v20, .inl (Y.2.2.1.1, m20, .inl f20))]) H := hP
  have hD : va_D A ([(h, .inr (11, [.int (v 0), .int (v 1), .int (v 2), .int (v 3), .int (v 4), .int (v 5), .int (v 6), .int (v 7), .int (v 8), .ref g, .int (nI mm)])), (bA, .inr (1, [.ref v20, .int 0, .int 0, .int (nI t20.length)])), (v20, .inl (Y.2.2.1.1, m20, .inl f20))]) := hD
  refine lv_aload_n hx hb dX9_text_170 rfl (lv_at hl 0 rfl) ?_
  refine n_get hC hb hP inGX9 0 rfl rfl 2 (by decide) rfl (gw_t (tb3 (List.mem_of_getElem? (i := 204) rfl)) rfl) rfl dX9_text_171 ?_
  refine lv_topi (fun x11 ex11 => ?_)
  have ex11 : x11 = nI pp := ex11.trans (h2)
  subst ex11
  refine g_r (Rs := [(h, .inr (11, [.int (v 0), .int (v 1), .int (v 2), .int (v 3), .int (v 4), .int (v 5), .int (v 6), .int (v 7), .int (v 8), .ref g, .int (nI mm)]))]) (C0 := [(bA, .inr (1, [.ref v20, .int 0, .int 0, .int (nI t20.length)])), (v20, .inl (Y.2.2.1.1, m20, .inl f20))]) (As := [.ref bA, .int (nI pp)]) hF hP hD hS XN_ok trivial (rV (As := [.int (nI pp)]) (rest := []) hF hl (c_J4_append_bf812 (t := t20) (k0 := pp) b2 hc20 (by have := hl20; show _ + 2 ≤ _; omega) _) (cwV 1 hC.2.1 (gi_V (gw_t (tb4 (List.mem_of_getElem? (i := 150) rfl)) rfl) (gw_t (tb4 (List.mem_of_getElem? (i := 151) rfl)) rfl) (gw_t (tb4 (List.mem_of_getElem? (i := 152) rfl)) rfl) (gw_t (tb1 (List.mem_of_getElem? (i := 12) rfl)) rfl) (gw_t (tb4 (List.mem_of_getElem? (i := 153) rfl)) rfl)) rfl rfl rfl ⟨rfl, by decide +kernel, by decide +kernel, by decide +kernel⟩ ⟨(Nat.le_of_ble_eq_true rfl), (Nat.le_of_ble_eq_true rfl)⟩) (va_recv hC.2.2.2.1 hP (q0 := 1) rfl rfl) rfl rfl (Nat.le_of_ble_eq_true rfl) dX9_text_174 ⟨(Nat.le_of_ble_eq_true rfl), (Nat.le_of_ble_eq_true rfl)⟩) (fun r21 u21 H locs hp21 hP hD hS => ?_)
  obtain ⟨hr21, hc21⟩ := hp21
  have hr21 : bA = r21 := hr21.symm
  subst hr21
  obtain ⟨v21, m21, f21⟩ := u21
  obtain ⟨t21, et21⟩ : ∃ x, x = t20 ++ dg pp := ⟨_, rfl⟩
  have hc21 : CT (t20 ++ dg pp) m21 f21 := hc21
  rw [← et21] at hP hD hc21
  have hl21 : t21.length ≤ 144 := by
    rw [et21, List.length_append]
    have := dg_ln pp; have := hl20; omega
  have hP : va_P D vwCl ([(h, .inr (11, [.int (v 0), .int (v 1), .int (v 2), .int (v 3), .int (v 4), .int (v 5), .int (v 6), .int (v 7), .int (v 8), .ref g, .int (nI mm)])), (bA, .inr (1, [.ref v21, .int 0, .int 0, .int (nI t21.length)])), (v21, .inl (Y.2.2.1.1, m21, .inl f21))]) H := hP
  have hD : va_D A ([(h, .inr (11, [.int (v 0), .int (v 1), .int (v 2), .int (v 3), .int (v 4), .int (v 5), .int (v 6), .int (v 7), .int (v 8), .ref g, .int (nI mm)])), (bA, .inr (1, [.ref v21, .int 0, .int 0, .int (nI t21.length)])), (v21, .inl (Y.2.2.1.1, m21, .inl f21))]) := hD
  obtain ⟨a22, w22, hR22, hST22⟩ := hSW.1 _ (List.mem_of_getElem? (i := 13) rfl)
  refine va_ldcS hx hb hC.2.2.1 hR22 dX9_text_177 ?_
  refine g_r (Rs := [(h, .inr (11, [.int (v 0), .int (v 1), .int (v 2), .int (v 3), .int (v 4), .int (v 5), .int (v 6), .int (v 7), .int (v 8), .ref g, .int (nI mm)]))]) (C0 := [(bA, .inr (1, [.ref v21, .int 0, .int 0, .int (nI t21.length)])), (v21, .inl (Y.2.2.1.1, m21, .inl f21))]) (As := [.ref bA, .ref a22]) hF hP hD hS STA_ok (X_at (Rs := [(h, .inr (11, [.int (v 0), .int (v 1), .int (v 2), .int (v 3), .int (v 4), .int (v 5), .int (v 6), .int (v 7), .int (v 8), .ref g, .int (nI mm)]))]) (C0 := [(bA, .inr (1, [.ref v21, .int 0, .int 0, .int (nI t21.length)])), (v21, .inl (Y.2.2.1.1, m21, .inl f21))]) STA_ok hF hST22 hD hS) (rV (As := [.ref a22]) (rest := []) hF hl (c_J4_append_15ec4 (t := t21) (w := wN11) hc21 rfl (by have := hl21; show _ + 42 ≤ _; omega) sbw_11 _) (cwV 1 hC.2.1 (gi_V (gw_t (tb4 (List.mem_of_getElem? (i := 32) rfl)) rfl) (gw_t (tb4 (List.mem_of_getElem? (i := 33) rfl)) rfl) (gw_t (tb4 (List.mem_of_getElem? (i := 34) rfl)) rfl) (gw_t (tb1 (List.mem_of_getElem? (i := 12) rfl)) rfl) (gw_t (tb4 (List.mem_of_getElem? (i := 35) rfl)) rfl)) rfl rfl rfl ⟨rfl, by decide +kernel, by decide +kernel, by decide +kernel⟩ ⟨(Nat.le_of_ble_eq_true rfl), (Nat.le_of_ble_eq_true rfl)⟩) (va_recv hC.2.2.2.1 hP (q0 := 1) rfl rfl) rfl rfl (Nat.le_of_ble_eq_true rfl) dX9_text_179 ⟨(Nat.le_of_ble_eq_true rfl), (Nat.le_of_ble_eq_true rfl)⟩) (fun r22 u22 H locs hp22 hP hD hS => ?_)
  obtain ⟨hr22, hc22⟩ := hp22
  have hr22 : bA = r22 := hr22.symm
  subst hr22
  obtain ⟨v22, m22, f22⟩ := u22
  obtain ⟨t22, et22⟩ : ∃ x, x = t21 ++ wN11 := ⟨_, rfl⟩
  have hc22 : CT (t21 ++ wN11) m22 f22 := hc22
  rw [← et22] at hP hD hc22
  have hl22 : t22.length ≤ 186 := by
    rw [et22, List.length_append]
    have := hl21; show _ + 42 ≤ _; omega
  have hP : va_P D vwCl ([(h, .inr (11, [.int (v 0), .int (v 1), .int (v 2), .int (v 3), .int (v 4), .int (v 5), .int (v 6), .int (v 7), .int (v 8), .ref g, .int (nI mm)])), (bA, .inr (1, [.ref v22, .int 0, .int 0, .int (nI t22.length)])), (v22, .inl (Y.2.2.1.1, m22, .inl f22))]) H := hP
  have hD : va_D A ([(h, .inr (11, [.int (v 0), .int (v 1), .int (v 2), .int (v 3), .int (v 4), .int (v 5), .int (v 6), .int (v 7), .int (v 8), .ref g, .int (nI mm)])), (bA, .inr (1, [.ref v22, .int 0, .int 0, .int (nI t22.length)])), (v22, .inl (Y.2.2.1.1, m22, .inl f22))]) := hD
  refine lv_aload_n hx hb dX9_text_182 rfl (lv_at hl 0 rfl) ?_
  refine n_get hC hb hP inGX9 0 rfl rfl 3 (by decide) rfl (gw_t (tb3 (List.mem_of_getElem? (i := 205) rfl)) rfl) rfl dX9_text_183 ?_
  refine lv_topi (fun x12 ex12 => ?_)
  have ex12 : x12 = nI qq := ex12.trans (h3)
  subst ex12
  refine g_r (Rs := [(h, .inr (11, [.int (v 0), .int (v 1), .int (v 2), .int (v 3), .int (v 4), .int (v 5), .int (v 6), .int (v 7), .int (v 8), .ref g, .int (nI mm)]))]) (C0 := [(bA, .inr (1, [.ref v22, .int 0, .int 0, .int (nI t22.length)])), (v22, .inl (Y.2.2.1.1, m22, .inl f22))]) (As := [.ref bA, .int (nI qq)]) hF hP hD hS XN_ok trivial (rV (As := [.int (nI qq)]) (rest := []) hF hl (c_J4_append_bf812 (t := t22) (k0 := qq) b3 hc22 (by have := hl22; show _ + 2 ≤ _; omega) _) (cwV 1 hC.2.1 (gi_V (gw_t (tb4 (List.mem_of_getElem? (i := 150) rfl)) rfl) (gw_t (tb4 (List.mem_of_getElem? (i := 151) rfl)) rfl) (gw_t (tb4 (List.mem_of_getElem? (i := 152) rfl)) rfl) (gw_t (tb1 (List.mem_of_getElem? (i := 12) rfl)) rfl) (gw_t (tb4 (List.mem_of_getElem? (i := 153) rfl)) rfl)) rfl rfl rfl ⟨rfl, by decide +kernel, by decide +kernel, by decide +kernel⟩ ⟨(Nat.le_of_ble_eq_true rfl), (Nat.le_of_ble_eq_true rfl)⟩) (va_recv hC.2.2.2.1 hP (q0 := 1) rfl rfl) rfl rfl (Nat.le_of_ble_eq_true rfl) dX9_text_186 ⟨(Nat.le_of_ble_eq_true rfl), (Nat.le_of_ble_eq_true rfl)⟩) (fun r23 u23 H locs hp23 hP hD hS => ?_)
  obtain ⟨hr23, hc23⟩ := hp23
  have hr23 : bA = r23 := hr23.symm
  subst hr23
  obtain ⟨v23, m23, f23⟩ := u23
  obtain ⟨t23, et23⟩ : ∃ x, x = t22 ++ dg qq := ⟨_, rfl⟩
  have hc23 : CT (t22 ++ dg qq) m23 f23 := hc23
  rw [← et23] at hP hD hc23
  have hl23 : t23.length ≤ 188 := by
    rw [et23, List.length_append]
    have := dg_ln qq; have := hl22; omega
  have hP : va_P D vwCl ([(h, .inr (11, [.int (v 0), .int (v 1), .int (v 2), .int (v 3), .int (v 4), .int (v 5), .int (v 6), .int (v 7), .int (v 8), .ref g, .int (nI mm)])), (bA, .inr (1, [.ref v23, .int 0, .int 0, .int (nI t23.length)])), (v23, .inl (Y.2.2.1.1, m23, .inl f23))]) H := hP
  have hD : va_D A ([(h, .inr (11, [.int (v 0), .int (v 1), .int (v 2), .int (v 3), .int (v 4), .int (v 5), .int (v 6), .int (v 7), .int (v 8), .ref g, .int (nI mm)])), (bA, .inr (1, [.ref v23, .int 0, .int 0, .int (nI t23.length)])), (v23, .inl (Y.2.2.1.1, m23, .inl f23))]) := hD
  obtain ⟨a24, w24, hR24, hST24⟩ := hSW.1 _ (List.mem_of_getElem? (i := 14) rfl)
  refine va_ldcS hx hb hC.2.2.1 hR24 dX9_text_189 ?_
  refine g_r (Rs := [(h, .inr (11, [.int (v 0), .int (v 1), .int (v 2), .int (v 3), .int (v 4), .int (v 5), .int (v 6), .int (v 7), .int (v 8), .ref g, .int (nI mm)]))]) (C0 := [(bA, .inr (1, [.ref v23, .int 0, .int 0, .int (nI t23.length)])), (v23, .inl (Y.2.2.1.1, m23, .inl f23))]) (As := [.ref bA, .ref a24]) hF hP hD hS STA_ok (X_at (Rs := [(h, .inr (11, [.int (v 0), .int (v 1), .int (v 2), .int (v 3), .int (v 4), .int (v 5), .int (v 6), .int (v 7), .int (v 8), .ref g, .int (nI mm)]))]) (C0 := [(bA, .inr (1, [.ref v23, .int 0, .int 0, .int (nI t23.length)])), (v23, .inl (Y.2.2.1.1, m23, .inl f23))]) STA_ok hF hST24 hD hS) (rV (As := [.ref a24]) (rest := []) hF hl (c_J4_append_15ec4 (t := t23) (w := wN12) hc23 rfl (by have := hl23; show _ + 17 ≤ _; omega) sbw_12 _) (cwV 1 hC.2.1 (gi_V (gw_t (tb4 (List.mem_of_getElem? (i := 32) rfl)) rfl) (gw_t (tb4 (List.mem_of_getElem? (i := 33) rfl)) rfl) (gw_t (tb4 (List.mem_of_getElem? (i := 34) rfl)) rfl) (gw_t (tb1 (List.mem_of_getElem? (i := 12) rfl)) rfl) (gw_t (tb4 (List.mem_of_getElem? (i := 35) rfl)) rfl)) rfl rfl rfl ⟨rfl, by decide +kernel, by decide +kernel, by decide +kernel⟩ ⟨(Nat.le_of_ble_eq_true rfl), (Nat.le_of_ble_eq_true rfl)⟩) (va_recv hC.2.2.2.1 hP (q0 := 1) rfl rfl) rfl rfl (Nat.le_of_ble_eq_true rfl) dX9_text_191 ⟨(Nat.le_of_ble_eq_true rfl), (Nat.le_of_ble_eq_true rfl)⟩) (fun r24 u24 H locs hp24 hP hD hS => ?_)
  obtain ⟨hr24, hc24⟩ := hp24
  have hr24 : bA = r24 := hr24.symm
  subst hr24
  obtain ⟨v24, m24, f24⟩ := u24
  obtain ⟨t24, et24⟩ : ∃ x, x = t23 ++ wN12 := ⟨_, rfl⟩
  have hc24 : CT (t23 ++ wN12) m24 f24 := hc24
  rw [← et24] at hP hD hc24
  have hl24 : t24.length ≤ 205 := by
    rw [et24, List.length_append]
    have := hl23; show _ + 17 ≤ _; omega
  have hP : va_P D vwCl ([(h, .inr (11, [.int (v 0), .int (v 1), .int (v 2), .int (v 3), .int (v 4), .int (v 5), .int (v 6), .int (v 7), .int (v 8), .ref g, .int (nI mm)])), (bA, .inr (1, [.ref v24, .int 0, .int 0, .int (nI t24.length)])), (v24, .inl (Y.2.2.1.1, m24, .inl f24))]) H := hP
  have hD : va_D A ([(h, .inr (11, [.int (v 0), .int (v 1), .int (v 2), .int (v 3), .int (v 4), .int (v 5), .int (v 6), .int (v 7), .int (v 8), .ref g, .int (nI mm)])), (bA, .inr (1, [.ref v24, .int 0, .int 0, .int (nI t24.length)])), (v24, .inl (Y.2.2.1.1, m24, .inl f24))]) := hD
  refine lv_aload_n hx hb dX9_text_194 rfl (lv_at hl 0 rfl) ?_
  refine n_get hC hb hP inGX9 0 rfl rfl 4 (by decide) rfl (gw_t (tb3 (List.mem_of_getElem? (i := 206) rfl)) rfl) rfl dX9_text_195 ?_
  refine lv_topi (fun x13 ex13 => ?_)
  have ex13 : x13 = nI bk := ex13.trans (h4)
  subst ex13
  refine g_r (Rs := [(h, .inr (11, [.int (v 0), .int (v 1), .int (v 2), .int (v 3), .int (v 4), .int (v 5), .int (v 6), .int (v 7), .int (v 8), .ref g, .int (nI mm)]))]) (C0 := [(bA, .inr (1, [.ref v24, .int 0, .int 0, .int (nI t24.length)])), (v24, .inl (Y.2.2.1.1, m24, .inl f24))]) (As := [.ref bA, .int (nI bk)]) hF hP hD hS XN_ok trivial (rV (As := [.int (nI bk)]) (rest := []) hF hl (c_J4_append_bf812 (t := t24) (k0 := bk) b4 hc24 (by have := hl24; show _ + 2 ≤ _; omega) _) (cwV 1 hC.2.1 (gi_V (gw_t (tb4 (List.mem_of_getElem? (i := 150) rfl)) rfl) (gw_t (tb4 (List.mem_of_getElem? (i := 151) rfl)) rfl) (gw_t (tb4 (List.mem_of_getElem? (i := 152) rfl)) rfl) (gw_t (tb1 (List.mem_of_getElem? (i := 12) rfl)) rfl) (gw_t (tb4 (List.mem_of_getElem? (i := 153) rfl)) rfl)) rfl rfl rfl ⟨rfl, by decide +kernel, by decide +kernel, by decide +kernel⟩ ⟨(Nat.le_of_ble_eq_true rfl), (Nat.le_of_ble_eq_true rfl)⟩) (va_recv hC.2.2.2.1 hP (q0 := 1) rfl rfl) rfl rfl (Nat.le_of_ble_eq_true rfl) dX9_text_198 ⟨(Nat.le_of_ble_eq_true rfl), (Nat.le_of_ble_eq_true rfl)⟩) (fun r25 u25 H locs hp25 hP hD hS => ?_)
  obtain ⟨hr25, hc25⟩ := hp25
  have hr25 : bA = r25 := hr25.symm
  subst hr25
  obtain ⟨v25, m25, f25⟩ := u25
  obtain ⟨t25, et25⟩ : ∃ x, x = t24 ++ dg bk := ⟨_, rfl⟩
  have hc25 : CT (t24 ++ dg bk) m25 f25 := hc25
  rw [← et25] at hP hD hc25
  have hl25 : t25.length ≤ 207 := by
    rw [et25, List.length_append]
    have := dg_ln bk; have := hl24; omega
  have hP : va_P D vwCl ([(h, .inr (11, [.int (v 0), .int (v 1), .int (v 2), .int (v 3), .int (v 4), .int (v 5), .int (v 6), .int (v 7), .int (v 8), .ref g, .int (nI mm)])), (bA, .inr (1, [.ref v25, .int 0, .int 0, .int (nI t25.length)])), (v25, .inl (Y.2.2.1.1, m25, .inl f25))]) H := hP
  have hD : va_D A ([(h, .inr (11, [.int (v 0), .int (v 1), .int (v 2), .int (v 3), .int (v 4), .int (v 5), .int (v 6), .int (v 7), .int (v 8), .ref g, .int (nI mm)])), (bA, .inr (1, [.ref v25, .int 0, .int 0, .int (nI t25.length)])), (v25, .inl (Y.2.2.1.1, m25, .inl f25))]) := hD
  obtain ⟨a26, w26, hR26, hST26⟩ := hSW.1 _ (List.mem_of_getElem? (i := 15) rfl)
  refine va_ldcS hx hb hC.2.2.1 hR26 dX9_text_201 ?_
  refine g_r (Rs := [(h, .inr (11, [.int (v 0), .int (v 1), .int (v 2), .int (v 3), .int (v 4), .int (v 5), .int (v 6), .int (v 7), .int (v 8), .ref g, .int (nI mm)]))]) (C0 := [(bA, .inr (1, [.ref v25, .int 0, .int 0, .int (nI t25.length)])), (v25, .inl (Y.2.2.1.1, m25, .inl f25))]) (As := [.ref bA, .ref a26]) hF hP hD hS STA_ok (X_at (Rs := [(h, .inr (11, [.int (v 0), .int (v 1), .int (v 2), .int (v 3), .int (v 4), .int (v 5), .int (v 6), .int (v 7), .int (v 8), .ref g, .int (nI mm)]))]) (C0 := [(bA, .inr (1, [.ref v25, .int 0, .int 0, .int (nI t25.length)])), (v25, .inl (Y.2.2.1.1, m25, .inl f25))]) STA_ok hF hST26 hD hS) (rV (As := [.ref a26]) (rest := []) hF hl (c_J4_append_15ec4 (t := t25) (w := wN13) hc25 rfl (by have := hl25; show _ + 13 ≤ _; omega) sbw_13 _) (cwV 1 hC.2.1 (gi_V (gw_t (tb4 (List.mem_of_getElem? (i := 32) rfl)) rfl) (gw_t (tb4 (List.mem_of_getElem? (i := 33) rfl)) rfl) (gw_t (tb4 (List.mem_of_getElem? (i := 34) rfl)) rfl) (gw_t (tb1 (List.mem_of_getElem? (i := 12) rfl)) rfl) (gw_t (tb4 (List.mem_of_getElem? (i := 35) rfl)) rfl)) rfl rfl rfl ⟨rfl, by decide +kernel, by decide +kernel, by decide +kernel⟩ ⟨(Nat.le_of_ble_eq_true rfl), (Nat.le_of_ble_eq_true rfl)⟩) (va_recv hC.2.2.2.1 hP (q0 := 1) rfl rfl) rfl rfl (Nat.le_of_ble_eq_true rfl) dX9_text_203 ⟨(Nat.le_of_ble_eq_true rfl), (Nat.le_of_ble_eq_true rfl)⟩) (fun r26 u26 H locs hp26 hP hD hS => ?_)
  obtain ⟨hr26, hc26⟩ := hp26
  have hr26 : bA = r26 := hr26.symm
  subst hr26
  obtain ⟨v26, m26, f26⟩ := u26
  obtain ⟨t26, et26⟩ : ∃ x, x = t25 ++ wN13 := ⟨_, rfl⟩
  have hc26 : CT (t25 ++ wN13) m26 f26 := hc26
  rw [← et26] at hP hD hc26
  have hl26 : t26.length ≤ 220 := by
    rw [et26, List.length_append]
    have := hl25; show _ + 13 ≤ _; omega
  have hP : va_P D vwCl ([(h, .inr (11, [.int (v 0), .int (v 1), .int (v 2), .int (v 3), .int (v 4), .int (v 5), .int (v 6), .int (v 7), .int (v 8), .ref g, .int (nI mm)])), (bA, .inr (1, [.ref v26, .int 0, .int 0, .int (nI t26.length)])), (v26, .inl (Y.2.2.1.1, m26, .inl f26))]) H := hP
  have hD : va_D A ([(h, .inr (11, [.int (v 0), .int (v 1), .int (v 2), .int (v 3), .int (v 4), .int (v 5), .int (v 6), .int (v 7), .int (v 8), .ref g, .int (nI mm)])), (bA, .inr (1, [.ref v26, .int 0, .int 0, .int (nI t26.length)])), (v26, .inl (Y.2.2.1.1, m26, .inl f26))]) := hD
  refine lv_bipush (v := 100) hx hb dX9_text_206 (by decide) ?_
  refine lv_aload_n hx hb dX9_text_208 rfl (lv_at hl 0 rfl) ?_
  refine n_get hC hb hP inGX9 0 rfl rfl 2 (by decide) rfl (gw_t (tb3 (List.mem_of_getElem? (i := 204) rfl)) rfl) rfl dX9_text_209 ?_
  refine lv_isub hx hb dX9_text_212 ?_
  refine lv_aload_n hx hb dX9_text_213 rfl (lv_at hl 0 rfl) ?_
  refine n_get hC hb hP inGX9 0 rfl rfl 3 (by decide) rfl (gw_t (tb3 (List.mem_of_getElem? (i := 205) rfl)) rfl) rfl dX9_text_214 ?_
  refine lv_isub hx hb dX9_text_217 ?_
  refine lv_topi (fun x14 ex14 => ?_)
  have ex14 : x14 = nI (100 - pp - qq) := ex14.trans (by rw [h2, h3, show (100 : Int32) = nI 100 from rfl, pk_sub (by omega), pk_sub (by omega)])
  subst ex14
  refine g_r (Rs := [(h, .inr (11, [.int (v 0), .int (v 1), .int (v 2), .int (v 3), .int (v 4), .int (v 5), .int (v 6), .int (v 7), .int (v 8), .ref g, .int (nI mm)]))]) (C0 := [(bA, .inr (1, [.ref v26, .int 0, .int 0, .int (nI t26.length)])), (v26, .inl (Y.2.2.1.1, m26, .inl f26))]) (As := [.ref bA, .int (nI (100 - pp - qq))]) hF hP hD hS XN_ok trivial (rV (As := [.int (nI (100 - pp - qq))]) (rest := []) hF hl (c_J4_append_bf812 (t := t26) (k0 := 100 - pp - qq) (by omega) hc26 (by have := hl26; show _ + 2 ≤ _; omega) _) (cwV 1 hC.2.1 (gi_V (gw_t (tb4 (List.mem_of_getElem? (i := 150) rfl)) rfl) (gw_t (tb4 (List.mem_of_getElem? (i := 151) rfl)) rfl) (gw_t (tb4 (List.mem_of_getElem? (i := 152) rfl)) rfl) (gw_t (tb1 (List.mem_of_getElem? (i := 12) rfl)) rfl) (gw_t (tb4 (List.mem_of_getElem? (i := 153) rfl)) rfl)) rfl rfl rfl ⟨rfl, by decide +kernel, by decide +kernel, by decide +kernel⟩ ⟨(Nat.le_of_ble_eq_true rfl), (Nat.le_of_ble_eq_true rfl)⟩) (va_recv hC.2.2.2.1 hP (q0 := 1) rfl rfl) rfl rfl (Nat.le_of_ble_eq_true rfl) dX9_text_218 ⟨(Nat.le_of_ble_eq_true rfl), (Nat.le_of_ble_eq_true rfl)⟩) (fun r27 u27 H locs hp27 hP hD hS => ?_)
  obtain ⟨hr27, hc27⟩ := hp27
  have hr27 : bA = r27 := hr27.symm
  subst hr27
  obtain ⟨v27, m27, f27⟩ := u27
  obtain ⟨t27, et27⟩ : ∃ x, x = t26 ++ dg (100 - pp - qq) := ⟨_, rfl⟩
  have hc27 : CT (t26 ++ dg (100 - pp - qq)) m27 f27 := hc27
  rw [← et27] at hP hD hc27
  have hl27 : t27.length ≤ 222 := by
    rw [et27, List.length_append]
    have := dg_ln (100 - pp - qq); have := hl26; omega
  have hP : va_P D vwCl ([(h, .inr (11, [.int (v 0), .int (v 1), .int (v 2), .int (v 3), .int (v 4), .int (v 5), .int (v 6), .int (v 7), .int (v 8), .ref g, .int (nI mm)])), (bA, .inr (1, [.ref v27, .int 0, .int 0, .int (nI t27.length)])), (v27, .inl (Y.2.2.1.1, m27, .inl f27))]) H := hP
  have hD : va_D A ([(h, .inr (11, [.int (v 0), .int (v 1), .int (v 2), .int (v 3), .int (v 4), .int (v 5), .int (v 6), .int (v 7), .int (v 8), .ref g, .int (nI mm)])), (bA, .inr (1, [.ref v27, .int 0, .int 0, .int (nI t27.length)])), (v27, .inl (Y.2.2.1.1, m27, .inl f27))]) := hD
  obtain ⟨a28, w28, hR28, hST28⟩ := hSW.1 _ (List.mem_of_getElem? (i := 16) rfl)
  refine va_ldcS hx hb hC.2.2.1 hR28 dX9_text_221 ?_
  refine g_r (Rs := [(h, .inr (11, [.int (v 0), .int (v 1), .int (v 2), .int (v 3), .int (v 4), .int (v 5), .int (v 6), .int (v 7), .int (v 8), .ref g, .int (nI mm)]))]) (C0 := [(bA, .inr (1, [.ref v27, .int 0, .int 0, .int (nI t27.length)])), (v27, .inl (Y.2.2.1.1, m27, .inl f27))]) (As := [.ref bA, .ref a28]) hF hP hD hS STA_ok (X_at (Rs := [(h, .inr (11, [.int (v 0), .int (v 1), .int (v 2), .int (v 3), .int (v 4), .int (v 5), .int (v 6), .int (v 7), .int (v 8), .ref g, .int (nI mm)]))]) (C0 := [(bA, .inr (1, [.ref v27, .int 0, .int 0, .int (nI t27.length)])), (v27, .inl (Y.2.2.1.1, m27, .inl f27))]) STA_ok hF hST28 hD hS) (rV (As := [.ref a28]) (rest := []) hF hl (c_J4_append_15ec4 (t := t27) (w := wN14) hc27 rfl (by have := hl27; show _ + 82 ≤ _; omega) sbw_14 _) (cwV 1 hC.2.1 (gi_V (gw_t (tb4 (List.mem_of_getElem? (i := 32) rfl)) rfl) (gw_t (tb4 (List.mem_of_getElem? (i := 33) rfl)) rfl) (gw_t (tb4 (List.mem_of_getElem? (i := 34) rfl)) rfl) (gw_t (tb1 (List.mem_of_getElem? (i := 12) rfl)) rfl) (gw_t (tb4 (List.mem_of_getElem? (i := 35) rfl)) rfl)) rfl rfl rfl ⟨rfl, by decide +kernel, by decide +kernel, by decide +kernel⟩ ⟨(Nat.le_of_ble_eq_true rfl), (Nat.le_of_ble_eq_true rfl)⟩) (va_recv hC.2.2.2.1 hP (q0 := 1) rfl rfl) rfl rfl (Nat.le_of_ble_eq_true rfl) dX9_text_223 ⟨(Nat.le_of_ble_eq_true rfl), (Nat.le_of_ble_eq_true rfl)⟩) (fun r28 u28 H locs hp28 hP hD hS => ?_)
  obtain ⟨hr28, hc28⟩ := hp28
  have hr28 : bA = r28 := hr28.symm
  subst hr28
  obtain ⟨v28, m28, f28⟩ := u28
  obtain ⟨t28, et28⟩ : ∃ x, x = t27 ++ wN14 := ⟨_, rfl⟩
  have hc28 : CT (t27 ++ wN14) m28 f28 := hc28
  rw [← et28] at hP hD hc28
  have hl28 : t28.length ≤ 304 := by
    rw [et28, List.length_append]
    have := hl27; show _ + 82 ≤ _; omega
  have hP : va_P D vwCl ([(h, .inr (11, [.int (v 0), .int (v 1), .int (v 2), .int (v 3), .int (v 4), .int (v 5), .int (v 6), .int (v 7), .int (v 8), .ref g, .int (nI mm)])), (bA, .inr (1, [.ref v28, .int 0, .int 0, .int (nI t28.length)])), (v28, .inl (Y.2.2.1.1, m28, .inl f28))]) H := hP
  have hD : va_D A ([(h, .inr (11, [.int (v 0), .int (v 1), .int (v 2), .int (v 3), .int (v 4), .int (v 5), .int (v 6), .int (v 7), .int (v 8), .ref g, .int (nI mm)])), (bA, .inr (1, [.ref v28, .int 0, .int 0, .int (nI t28.length)])), (v28, .inl (Y.2.2.1.1, m28, .inl f28))]) := hD
  refine lv_aload_n hx hb dX9_text_226 rfl (lv_at hl 0 rfl) ?_
  refine n_get hC hb hP inGX9 0 rfl rfl 8 (by decide) rfl (gw_t (tb3 (List.mem_of_getElem? (i := 210) rfl)) rfl) rfl dX9_text_227 ?_
  refine lv_topi (fun x15 ex15 => ?_)
  have ex15 : x15 = nI jp := ex15.trans (h8)
  subst ex15
  refine g_r (Rs := [(h, .inr (11, [.int (v 0), .int (v 1), .int (v 2), .int (v 3), .int (v 4), .int (v 5), .int (v 6), .int (v 7), .int (v 8), .ref g, .int (nI mm)]))]) (C0 := [(bA, .inr (1, [.ref v28, .int 0, .int 0, .int (nI t28.length)])), (v28, .inl (Y.2.2.1.1, m28, .inl f28))]) (As := [.ref bA, .int (nI jp)]) hF hP hD hS XN_ok trivial (rV (As := [.int (nI jp)]) (rest := []) hF hl (c_J4_append_bf812 (t := t28) (k0 := jp) b8 hc28 (by have := hl28; show _ + 2 ≤ _; omega) _) (cwV 1 hC.2.1 (gi_V (gw_t (tb4 (List.mem_of_getElem? (i := 150) rfl)) rfl) (gw_t (tb4 (List.mem_of_getElem? (i := 151) rfl)) rfl) (gw_t (tb4 (List.mem_of_getElem? (i := 152) rfl)) rfl) (gw_t (tb1 (List.mem_of_getElem? (i := 12) rfl)) rfl) (gw_t (tb4 (List.mem_of_getElem? (i := 153) rfl)) rfl)) rfl rfl rfl ⟨rfl, by decide +kernel, by decide +kernel, by decide +kernel⟩ ⟨(Nat.le_of_ble_eq_true rfl), (Nat.le_of_ble_eq_true rfl)⟩) (va_recv hC.2.2.2.1 hP (q0 := 1) rfl rfl) rfl rfl (Nat.le_of_ble_eq_true rfl) dX9_text_230 ⟨(Nat.le_of_ble_eq_true rfl), (Nat.le_of_ble_eq_true rfl)⟩) (fun r29 u29 H locs hp29 hP hD hS => ?_)
  obtain ⟨hr29, hc29⟩ := hp29
  have hr29 : bA = r29 := hr29.symm
  subst hr29
  obtain ⟨v29, m29, f29⟩ := u29
  obtain ⟨t29, et29⟩ : ∃ x, x = t28 ++ dg jp := ⟨_, rfl⟩
  have hc29 : CT (t28 ++ dg jp) m29 f29 := hc29
  rw [← et29] at hP hD hc29
  have hl29 : t29.length ≤ 306 := by
    rw [et29, List.length_append]
    have := dg_ln jp; have := hl28; omega
  have hP : va_P D vwCl ([(h, .inr (11, [.int (v 0), .int (v 1), .int (v 2), .int (v 3), .int (v 4), .int (v 5), .int (v 6), .int (v 7), .int (v 8), .ref g, .int (nI mm)])), (bA, .inr (1, [.ref v29, .int 0, .int 0, .int (nI t29.length)])), (v29, .inl (Y.2.2.1.1, m29, .inl f29))]) H := hP
  have hD : va_D A ([(h, .inr (11, [.int (v 0), .int (v 1), .int (v 2), .int (v 3), .int (v 4), .int (v 5), .int (v 6), .int (v 7), .int (v 8), .ref g, .int (nI mm)])), (bA, .inr (1, [.ref v29, .int 0, .int 0, .int (nI t29.length)])), (v29, .inl (Y.2.2.1.1, m29, .inl f29))]) := hD
  obtain ⟨a30, w30, hR30, hST30⟩ := hSW.1 _ (List.mem_of_getElem? (i := 17) rfl)
  refine va_ldcS hx hb hC.2.2.1 hR30 dX9_text_233 ?_
  refine g_r (Rs := [(h, .inr (11, [.int (v 0), .int (v 1), .int (v 2), .int (v 3), .int (v 4), .int (v 5), .int (v 6), .int (v 7), .int (v 8), .ref g, .int (nI mm)]))]) (C0 := [(bA, .inr (1, [.ref v29, .int 0, .int 0, .int (nI t29.length)])), (v29, .inl (Y.2.2.1.1, m29, .inl f29))]) (As := [.ref bA, .ref a30]) hF hP hD hS STA_ok (X_at (Rs := [(h, .inr (11, [.int (v 0), .int (v 1), .int (v 2), .int (v 3), .int (v 4), .int (v 5), .int (v 6), .int (v 7), .int (v 8), .ref g, .int (nI mm)]))]) (C0 := [(bA, .inr (1, [.ref v29, .int 0, .int 0, .int (nI t29.length)])), (v29, .inl (Y.2.2.1.1, m29, .inl f29))]) STA_ok hF hST30 hD hS) (rV (As := [.ref a30]) (rest := []) hF hl (c_J4_append_15ec4 (t := t29) (w := wN15) hc29 rfl (by have := hl29; show _ + 30 ≤ _; omega) sbw_15 _) (cwV 1 hC.2.1 (gi_V (gw_t (tb4 (List.mem_of_getElem? (i := 32) rfl)) rfl) (gw_t (tb4 (List.mem_of_getElem? (i := 33) rfl)) rfl) (gw_t (tb4 (List.mem_of_getElem? (i := 34) rfl)) rfl) (gw_t (tb1 (List.mem_of_getElem? (i := 12) rfl)) rfl) (gw_t (tb4 (List.mem_of_getElem? (i := 35) rfl)) rfl)) rfl rfl rfl ⟨rfl, by decide +kernel, by decide +kernel, by decide +kernel⟩ ⟨(Nat.le_of_ble_eq_true rfl), (Nat.le_of_ble_eq_true rfl)⟩) (va_recv hC.2.2.2.1 hP (q0 := 1) rfl rfl) rfl rfl (Nat.le_of_ble_eq_true rfl) dX9_text_235 ⟨(Nat.le_of_ble_eq_true rfl), (Nat.le_of_ble_eq_true rfl)⟩) (fun r30 u30 H locs hp30 hP hD hS => ?_)
  obtain ⟨hr30, hc30⟩ := hp30
  have hr30 : bA = r30 := hr30.symm
  subst hr30
  obtain ⟨v30, m30, f30⟩ := u30
  obtain ⟨t30, et30⟩ : ∃ x, x = t29 ++ wN15 := ⟨_, rfl⟩
  have hc30 : CT (t29 ++ wN15) m30 f30 := hc30
  rw [← et30] at hP hD hc30
  have hl30 : t30.length ≤ 336 := by
    rw [et30, List.length_append]
    have := hl29; show _ + 30 ≤ _; omega
  have hP : va_P D vwCl ([(h, .inr (11, [.int (v 0), .int (v 1), .int (v 2), .int (v 3), .int (v 4), .int (v 5), .int (v 6), .int (v 7), .int (v 8), .ref g, .int (nI mm)])), (bA, .inr (1, [.ref v30, .int 0, .int 0, .int (nI t30.length)])), (v30, .inl (Y.2.2.1.1, m30, .inl f30))]) H := hP
  have hD : va_D A ([(h, .inr (11, [.int (v 0), .int (v 1), .int (v 2), .int (v 3), .int (v 4), .int (v 5), .int (v 6), .int (v 7), .int (v 8), .ref g, .int (nI mm)])), (bA, .inr (1, [.ref v30, .int 0, .int 0, .int (nI t30.length)])), (v30, .inl (Y.2.2.1.1, m30, .inl f30))]) := hD
  refine lv_aload_n hx hb dX9_text_238 rfl (lv_at hl 0 rfl) ?_
  refine n_get hC hb hP inGX9 0 rfl rfl 8 (by decide) rfl (gw_t (tb3 (List.mem_of_getElem? (i := 210) rfl)) rfl) rfl dX9_text_239 ?_
  refine lv_topi (fun x16 ex16 => ?_)
  have ex16 : x16 = nI jp := ex16.trans (h8)
  subst ex16
  refine g_r (Rs := [(h, .inr (11, [.int (v 0), .int (v 1), .int (v 2), .int (v 3), .int (v 4), .int (v 5), .int (v 6), .int (v 7), .int (v 8), .ref g, .int (nI mm)]))]) (C0 := [(bA, .inr (1, [.ref v30, .int 0, .int 0, .int (nI t30.length)])), (v30, .inl (Y.2.2.1.1, m30, .inl f30))]) (As := [.ref bA, .int (nI jp)]) hF hP hD hS XN_ok trivial (rV (As := [.int (nI jp)]) (rest := []) hF hl (c_J4_append_bf812 (t := t30) (k0 := jp) b8 hc30 (by have := hl30; show _ + 2 ≤ _; omega) _) (cwV 1 hC.2.1 (gi_V (gw_t (tb4 (List.mem_of_getElem? (i := 150) rfl)) rfl) (gw_t (tb4 (List.mem_of_getElem? (i := 151) rfl)) rfl) (gw_t (tb4 (List.mem_of_getElem? (i := 152) rfl)) rfl) (gw_t (tb1 (List.mem_of_getElem? (i := 12) rfl)) rfl) (gw_t (tb4 (List.mem_of_getElem? (i := 153) rfl)) rfl)) rfl rfl rfl ⟨rfl, by decide +kernel, by decide +kernel, by decide +kernel⟩ ⟨(Nat.le_of_ble_eq_true rfl), (Nat.le_of_ble_eq_true rfl)⟩) (va_recv hC.2.2.2.1 hP (q0 := 1) rfl rfl) rfl rfl (Nat.le_of_ble_eq_true rfl) dX9_text_242 ⟨(Nat.le_of_ble_eq_true rfl), (Nat.le_of_ble_eq_true rfl)⟩) (fun r31 u31 H locs hp31 hP hD hS => ?_)
  obtain ⟨hr31, hc31⟩ := hp31
  have hr31 : bA = r31 := hr31.symm
  subst hr31
  obtain ⟨v31, m31, f31⟩ := u31
  obtain ⟨t31, et31⟩ : ∃ x, x = t30 ++ dg jp := ⟨_, rfl⟩
  have hc31 : CT (t30 ++ dg jp) m31 f31 := hc31
  rw [← et31] at hP hD hc31
  have hl31 : t31.length ≤ 338 := by
    rw [et31, List.length_append]
    have := dg_ln jp; have := hl30; omega
  have hP : va_P D vwCl ([(h, .inr (11, [.int (v 0), .int (v 1), .int (v 2), .int (v 3), .int (v 4), .int (v 5), .int (v 6), .int (v 7), .int (v 8), .ref g, .int (nI mm)])), (bA, .inr (1, [.ref v31, .int 0, .int 0, .int (nI t31.length)])), (v31, .inl (Y.2.2.1.1, m31, .inl f31))]) H := hP
  have hD : va_D A ([(h, .inr (11, [.int (v 0), .int (v 1), .int (v 2), .int (v 3), .int (v 4), .int (v 5), .int (v 6), .int (v 7), .int (v 8), .ref g, .int (nI mm)])), (bA, .inr (1, [.ref v31, .int 0, .int 0, .int (nI t31.length)])), (v31, .inl (Y.2.2.1.1, m31, .inl f31))]) := hD
  obtain ⟨a32, w32, hR32, hST32⟩ := hSW.1 _ (List.mem_of_getElem? (i := 18) rfl)
  refine va_ldcS hx hb hC.2.2.1 hR32 dX9_text_245 ?_
  refine g_r (Rs := [(h, .inr (11, [.int (v 0), .int (v 1), .int (v 2), .int (v 3), .int (v 4), .int (v 5), .int (v 6), .int (v 7), .int (v 8), .ref g, .int (nI mm)]))]) (C0 := [(bA, .inr (1, [.ref v31, .int 0, .int 0, .int (nI t31.length)])), (v31, .inl (Y.2.2.1.1, m31, .inl f31))]) (As := [.ref bA, .ref a32]) hF hP hD hS STA_ok (X_at (Rs := [(h, .inr (11, [.int (v 0), .int (v 1), .int (v 2), .int (v 3), .int (v 4), .int (v 5), .int (v 6), .int (v 7), .int (v 8), .ref g, .int (nI mm)]))]) (C0 := [(bA, .inr (1, [.ref v31, .int 0, .int 0, .int (nI t31.length)])), (v31, .inl (Y.2.2.1.1, m31, .inl f31))]) STA_ok hF hST32 hD hS) (rV (As := [.ref a32]) (rest := []) hF hl (c_J4_append_15ec4 (t := t31) (w := wN16) hc31 rfl (by have := hl31; show _ + 33 ≤ _; omega) sbw_16 _) (cwV 1 hC.2.1 (gi_V (gw_t (tb4 (List.mem_of_getElem? (i := 32) rfl)) rfl) (gw_t (tb4 (List.mem_of_getElem? (i := 33) rfl)) rfl) (gw_t (tb4 (List.mem_of_getElem? (i := 34) rfl)) rfl) (gw_t (tb1 (List.mem_of_getElem? (i := 12) rfl)) rfl) (gw_t (tb4 (List.mem_of_getElem? (i := 35) rfl)) rfl)) rfl rfl rfl ⟨rfl, by decide +kernel, by decide +kernel, by decide +kernel⟩ ⟨(Nat.le_of_ble_eq_true rfl), (Nat.le_of_ble_eq_true rfl)⟩) (va_recv hC.2.2.2.1 hP (q0 := 1) rfl rfl) rfl rfl (Nat.le_of_ble_eq_true rfl) dX9_text_247 ⟨(Nat.le_of_ble_eq_true rfl), (Nat.le_of_ble_eq_true rfl)⟩) (fun r32 u32 H locs hp32 hP hD hS => ?_)
  obtain ⟨hr32, hc32⟩ := hp32
  have hr32 : bA = r32 := hr32.symm
  subst hr32
  obtain ⟨v32, m32, f32⟩ := u32
  obtain ⟨t32, et32⟩ : ∃ x, x = t31 ++ wN16 := ⟨_, rfl⟩
  have hc32 : CT (t31 ++ wN16) m32 f32 := hc32
  rw [← et32] at hP hD hc32
  have hl32 : t32.length ≤ 371 := by
    rw [et32, List.length_append]
    have := hl31; show _ + 33 ≤ _; omega
  have hP : va_P D vwCl ([(h, .inr (11, [.int (v 0), .int (v 1), .int (v 2), .int (v 3), .int (v 4), .int (v 5), .int (v 6), .int (v 7), .int (v 8), .ref g, .int (nI mm)])), (bA, .inr (1, [.ref v32, .int 0, .int 0, .int (nI t32.length)])), (v32, .inl (Y.2.2.1.1, m32, .inl f32))]) H := hP
  have hD : va_D A ([(h, .inr (11, [.int (v 0), .int (v 1), .int (v 2), .int (v 3), .int (v 4), .int (v 5), .int (v 6), .int (v 7), .int (v 8), .ref g, .int (nI mm)])), (bA, .inr (1, [.ref v32, .int 0, .int 0, .int (nI t32.length)])), (v32, .inl (Y.2.2.1.1, m32, .inl f32))]) := hD
  refine g_r (Rs := [(h, .inr (11, [.int (v 0), .int (v 1), .int (v 2), .int (v 3), .int (v 4), .int (v 5), .int (v 6), .int (v 7), .int (v 8), .ref g, .int (nI mm)]))]) (C0 := [(bA, .inr (1, [.ref v32, .int 0, .int 0, .int (nI t32.length)])), (v32, .inl (Y.2.2.1.1, m32, .inl f32))]) (As := [.ref bA]) hF hP hD hS XN_ok trivial (rV (As := []) (rest := []) hF hl (c_J4_toString_0e30d hc32 _) (cwV 0 hC.2.1 (gi_V (gw_t (tb4 (List.mem_of_getElem? (i := 178) rfl)) rfl) (gw_t (tb4 (List.mem_of_getElem? (i := 179) rfl)) rfl) (gw_t (tb4 (List.mem_of_getElem? (i := 180) rfl)) rfl) (gw_t (tb1 (List.mem_of_getElem? (i := 12) rfl)) rfl) (gw_t (tb4 (List.mem_of_getElem? (i := 181) rfl)) rfl)) rfl rfl rfl ⟨rfl, by decide +kernel, by decide +kernel, by decide +kernel⟩ ⟨(Nat.le_of_ble_eq_true rfl), (Nat.le_of_ble_eq_true rfl)⟩) (va_recv hC.2.2.2.1 hP (q0 := 1) rfl rfl) rfl rfl (Nat.le_of_ble_eq_true rfl) dX9_text_250 ⟨(Nat.le_of_ble_eq_true rfl), (Nat.le_of_ble_eq_true rfl)⟩) (fun r33 u33 H locs hp33 hP hD hS => ?_)
  obtain ⟨v33, f33⟩ := u33
  obtain ⟨hb33, hg33⟩ := hp33
  have hb33 : FB f33 := hb33
  have hg33 : ∀ j, j < t32.length → f33 j = nI (t32.getD j 0) := hg33
  have hP : va_P D vwCl ([(h, .inr (11, [.int (v 0), .int (v 1), .int (v 2), .int (v 3), .int (v 4), .int (v 5), .int (v 6), .int (v 7), .int (v 8), .ref g, .int (nI mm)])), (r33, .inr (0, [.ref v33, .int 0, .int 0, .int 0])), (v33, .inl (Y.2.2.1.1, t32.length, .inl f33))]) H := hP
  have hD : va_D A ([(h, .inr (11, [.int (v 0), .int (v 1), .int (v 2), .int (v 3), .int (v 4), .int (v 5), .int (v 6), .int (v 7), .int (v 8), .ref g, .int (nI mm)])), (r33, .inr (0, [.ref v33, .int 0, .int 0, .int 0])), (v33, .inl (Y.2.2.1.1, t32.length, .inl f33))]) := hD
  have hT : t32 = (txt f0 n0 false aa bb (some gg) pp qq bk (100 - pp - qq) jp) := by
    rw [et32, et31, et30, et29, et28, et27, et26, et25, et24, et23, et22, et21, et20, et19, et18, et17, et15, et14, et13, et12, et11, et10, et9, et7, et6, et5, et4, et3, et2, et1]
    simp only [txt, txA, txG, cond_true, cond_false, show wN4 = [] from rfl, List.append_assoc, List.nil_append, List.append_nil]
  rw [hT] at hP hD hg33
  exact g_aret ((v33, f33)) r33 hF (Or.inl ⟨_, rfl⟩) (⟨hb33, hg33⟩) hP hD hS dX9_text_253 (Nat.le_of_ble_eq_true rfl) (Nat.le_of_ble_eq_true rfl)
