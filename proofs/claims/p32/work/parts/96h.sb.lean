/-! (by wip/p32/sb.py) -/
abbrev rn_J5_append_c97b9 : Room := { frames := 4, cells := 1, slots := 802, locals := 240 }
set_option maxHeartbeats 4000000 in
set_option maxRecDepth 100000 in
theorem c_J5_append_c97b9 {l : Launch} {D : va_G} {Y : CYs} {h v mm k0 : Nat} {f : Nat → Int32} {t : List Nat} (hk : k0 < 100) (hc : CT t mm f) (hl4 : t.length + 2 ≤ 400) (sz : Nat) : Met l yJ5_append_c97b9 (Cond.code yJ5_append_c97b9 cJ5_append_c97b9 4 (some (.object "java/lang/AbstractStringBuilder")) :: gW) rn_J5_append_c97b9 (PcE XN ([(h, .inr (1, [.ref v, .int 0, .int 0, .int (nI t.length)])), (v, .inl (Y.2.2.1.1, mm, .inl f))]) Y D sz [.ref h, .int (nI k0)]) (GR (S := Nat × Nat × (Nat → Int32)) (fun u r => r = h ∧ CT (t ++ dg k0) u.2.1 u.2.2) (fun u _ => sbW Y h (t ++ dg k0).length u) Y D (va_A ([(h, .inr (1, [.ref v, .int 0, .int 0, .int (nI t.length)])), (v, .inl (Y.2.2.1.1, mm, .inl f))]) sz)) 1 802 (va_A ([(h, .inr (1, [.ref v, .int 0, .int 0, .int (nI t.length)])), (v, .inl (Y.2.2.1.1, mm, .inl f))]) sz) := by
  refine Met_ofE (Qc := GR (S := Nat × Nat × (Nat → Int32)) (fun u r => r = h ∧ CT (t ++ dg k0) u.2.1 u.2.2) (fun u _ => sbW Y h (t ++ dg k0).length u) Y D) (by decide) (Nat.le_of_ble_eq_true rfl) (fun p e s m args below meth c A hF hX hin hP hD hS ls hl => ?_) sz
  obtain ⟨hC, hb, hml, hr, hlk, hSW, hA⟩ := id hF
  have hx := hC.1
  have hl : lv_has ls 4 [(0, .ref h), (1, .int (nI k0))] := hl
  have hd2 := dg_ln k0
  refine lv_aload_n hx hb dJ5_append_c97b9_0 rfl (lv_at hl 0 rfl) ?_
  refine n_get hC hb hP inGJ4 0 rfl rfl 3 (by decide) rfl (gw_t (tb4 (List.mem_of_getElem? (i := 21) rfl)) rfl) rfl dJ5_append_c97b9_1 ?_
  refine lv_istore_n (lv' := [(2, .int (nI t.length)), (0, .ref h), (1, .int (nI k0))]) hx hb dJ5_append_c97b9_4 rfl hl (by decide) rfl (fun ls hl => ?_)
  refine lv_iload_n hx hb dJ5_append_c97b9_5 rfl (lv_at hl 0 rfl) ?_
  refine lv_iload_n hx hb dJ5_append_c97b9_6 rfl (lv_at hl 2 rfl) ?_
  refine g_i (Rs := [(h, .inr (1, [.ref v, .int 0, .int 0, .int (nI t.length)])), (v, .inl (Y.2.2.1.1, mm, .inl f))]) (C0 := []) (As := [.int (nI k0)]) hF hP hD hS XN_ok trivial (rS (As := [.int (nI k0)]) (rest := [.int (nI t.length)]) hF hl (c_J6_stringSize_0f7a4 hk _) ⟨callB_of 1 hC.2.1 (gi_law (gw_t (tb4 (List.mem_of_getElem? (i := 159) rfl)) rfl)) rfl rfl rfl (hC.2.1 (Cond.initialized RJ6) (gw_t (tb1 (List.mem_of_getElem? (i := 22) rfl)) rfl)) (hC.2.1 (Cond.methodLink RJ5 245 yJ6_stringSize_0f7a4) (gw_t (tb4 (List.mem_of_getElem? (i := 157) rfl)) rfl)) ⟨by decide +kernel, by decide +kernel, by decide +kernel⟩ ⟨(Nat.le_of_ble_eq_true rfl), (Nat.le_of_ble_eq_true rfl)⟩, hC.2.1 (Cond.static yJ6_stringSize_0f7a4) (gw_t (tb4 (List.mem_of_getElem? (i := 158) rfl)) rfl)⟩ rfl rfl (Nat.le_of_ble_eq_true rfl) dJ5_append_c97b9_7 ⟨(Nat.le_of_ble_eq_true rfl), (Nat.le_of_ble_eq_true rfl)⟩) (fun r u H locs hp hP hD hS => ?_)
  have hp : r = nI (dg k0).length := hp
  subst hp
  have hP : va_P D vwCl ([(h, .inr (1, [.ref v, .int 0, .int 0, .int (nI t.length)])), (v, .inl (Y.2.2.1.1, mm, .inl f))]) H := hP
  have hD : va_D A ([(h, .inr (1, [.ref v, .int 0, .int 0, .int (nI t.length)])), (v, .inl (Y.2.2.1.1, mm, .inl f))]) := hD
  refine lv_iadd hx hb dJ5_append_c97b9_10 ?_
  refine lv_topi (fun x1 ex1 => ?_)
  have ex1 : x1 = nI (t.length + (dg k0).length) := ex1.trans (nI_add _ _)
  subst ex1
  refine lv_istore_n (lv' := [(3, .int (nI (t.length + (dg k0).length))), (2, .int (nI t.length)), (0, .ref h), (1, .int (nI k0))]) hx hb dJ5_append_c97b9_11 rfl hl (by decide) rfl (fun ls hl => ?_)
  refine lv_aload_n hx hb dJ5_append_c97b9_12 rfl (lv_at hl 2 rfl) ?_
  refine lv_iload_n hx hb dJ5_append_c97b9_13 rfl (lv_at hl 0 rfl) ?_
  refine g_v (Rs := []) (C0 := [(h, .inr (1, [.ref v, .int 0, .int 0, .int (nI t.length)])), (v, .inl (Y.2.2.1.1, mm, .inl f))]) (As := [.ref h, .int (nI (t.length + (dg k0).length))]) hF hP hD hS XN_ok trivial (rU (As := [.int (nI (t.length + (dg k0).length))]) (rest := []) hF hl (c_J5_ensureCapacityInternal_d00df (mm := mm) (qq := t.length + (dg k0).length) hc.2.1 (by omega) hc.2.2.1 _) (cu_of 1 hC (gw_t (tb4 (List.mem_of_getElem? (i := 46) rfl)) rfl) rfl rfl ⟨(Nat.le_of_ble_eq_true rfl), (Nat.le_of_ble_eq_true rfl)⟩ (gw_t (tb4 (List.mem_of_getElem? (i := 43) rfl)) rfl) (gw_t (tb6 (List.mem_of_getElem? (i := 157) rfl)) rfl) (gw_t (tb4 (List.mem_of_getElem? (i := 45) rfl)) rfl) (gw_t (tb1 (List.mem_of_getElem? (i := 11) rfl)) rfl) (hC.2.1 (Cond.selects RJ4 yJ5_ensureCapacityInternal_d00df yJ5_ensureCapacityInternal_d00df) (gw_p (List.mem_of_getElem? (i := 1) rfl) rfl)) ⟨by decide +kernel, by decide +kernel, by decide +kernel⟩) (va_recv hC.2.2.2.1 hP (q0 := 0) rfl rfl) rfl rfl (Nat.le_of_ble_eq_true rfl) dJ5_append_c97b9_14 ⟨(Nat.le_of_ble_eq_true rfl), (Nat.le_of_ble_eq_true rfl)⟩) (fun u H locs hp hP hD hS => ?_)
  obtain ⟨v1, m1, f1⟩ := u
  obtain ⟨p1, p2, p3, p4, p5⟩ := hp
  have p1 : t.length + (dg k0).length ≤ m1 := p1
  have p2 : mm ≤ m1 := p2
  have p3 : m1 ≤ 802 := p3
  have p4 : FB f1 := p4
  have p5 : ∀ j, j < mm → f1 j = f j := p5
  have hP : va_P D vwCl ([(h, .inr (1, [.ref v1, .int 0, .int 0, .int (nI t.length)])), (v1, .inl (Y.2.2.1.1, m1, .inl f1))]) H := hP
  have hD : va_D A ([(h, .inr (1, [.ref v1, .int 0, .int 0, .int (nI t.length)])), (v1, .inl (Y.2.2.1.1, m1, .inl f1))]) := hD
  refine lv_aload_n hx hb dJ5_append_c97b9_17 rfl (lv_at hl 2 rfl) ?_
  refine g_i (Rs := []) (C0 := [(h, .inr (1, [.ref v1, .int 0, .int 0, .int (nI t.length)])), (v1, .inl (Y.2.2.1.1, m1, .inl f1))]) (As := [.ref h]) hF hP hD hS XN_ok trivial (rU (As := []) (rest := []) hF hl (c_J5_isLatin1_aae02 _) (cu_of 0 hC (gw_t (tb4 (List.mem_of_getElem? (i := 80) rfl)) rfl) rfl rfl ⟨(Nat.le_of_ble_eq_true rfl), (Nat.le_of_ble_eq_true rfl)⟩ (gw_t (tb4 (List.mem_of_getElem? (i := 76) rfl)) rfl) (gw_t (tb4 (List.mem_of_getElem? (i := 78) rfl)) rfl) (gw_t (tb4 (List.mem_of_getElem? (i := 77) rfl)) rfl) (gw_t (tb1 (List.mem_of_getElem? (i := 11) rfl)) rfl) (hC.2.1 (Cond.selects RJ4 yJ5_isLatin1_aae02 yJ5_isLatin1_aae02) (gw_t (tb4 (List.mem_of_getElem? (i := 79) rfl)) rfl)) ⟨by decide +kernel, by decide +kernel, by decide +kernel⟩) (va_recv hC.2.2.2.1 hP (q0 := 0) rfl rfl) rfl rfl (Nat.le_of_ble_eq_true rfl) dJ5_append_c97b9_18 ⟨(Nat.le_of_ble_eq_true rfl), (Nat.le_of_ble_eq_true rfl)⟩) (fun r u H locs hp hP hD hS => ?_)
  have hp : r = 1 := hp
  subst hp
  have hP : va_P D vwCl ([(h, .inr (1, [.ref v1, .int 0, .int 0, .int (nI t.length)])), (v1, .inl (Y.2.2.1.1, m1, .inl f1))]) H := hP
  have hD : va_D A ([(h, .inr (1, [.ref v1, .int 0, .int 0, .int (nI t.length)])), (v1, .inl (Y.2.2.1.1, m1, .inl f1))]) := hD
  refine lv_if_eq (tgt := 37) hx hb dJ5_append_c97b9_21 (by decide) (fun c2 => False.elim (absurd c2 (by decide))) (fun c2 => ?_)
  refine lv_iload_n hx hb dJ5_append_c97b9_24 rfl (lv_at hl 3 rfl) ?_
  refine lv_iload_n hx hb dJ5_append_c97b9_25 rfl (lv_at hl 0 rfl) ?_
  refine lv_aload_n hx hb dJ5_append_c97b9_26 rfl (lv_at hl 2 rfl) ?_
  refine n_get hC hb hP inGJ4 0 rfl rfl 0 (by decide) rfl (gw_t (tb4 (List.mem_of_getElem? (i := 18) rfl)) rfl) rfl dJ5_append_c97b9_27 ?_
  refine g_i (Rs := [(h, .inr (1, [.ref v1, .int 0, .int 0, .int (nI t.length)]))]) (C0 := [(v1, .inl (Y.2.2.1.1, m1, .inl f1))]) (As := [.int (nI k0), .int (nI (t.length + (dg k0).length)), .ref v1]) hF hP hD hS XN_ok trivial (rS (As := [.int (nI k0), .int (nI (t.length + (dg k0).length)), .ref v1]) (rest := []) hF hl (c_J6_getChars_ba4f3 (n0 := t.length) hk rfl p1 p3 p4 _) ⟨callB_of 3 hC.2.1 (gi_law (gw_t (tb4 (List.mem_of_getElem? (i := 162) rfl)) rfl)) rfl rfl rfl (hC.2.1 (Cond.initialized RJ6) (gw_t (tb1 (List.mem_of_getElem? (i := 22) rfl)) rfl)) (hC.2.1 (Cond.methodLink RJ5 248 yJ6_getChars_ba4f3) (gw_t (tb4 (List.mem_of_getElem? (i := 160) rfl)) rfl)) ⟨by decide +kernel, by decide +kernel, by decide +kernel⟩ ⟨(Nat.le_of_ble_eq_true rfl), (Nat.le_of_ble_eq_true rfl)⟩, hC.2.1 (Cond.static yJ6_getChars_ba4f3) (gw_t (tb4 (List.mem_of_getElem? (i := 161) rfl)) rfl)⟩ rfl rfl (Nat.le_of_ble_eq_true rfl) dJ5_append_c97b9_30 ⟨(Nat.le_of_ble_eq_true rfl), (Nat.le_of_ble_eq_true rfl)⟩) (fun r f2 H locs hq hP hD hS => ?_)
  have hP : va_P D vwCl ([(h, .inr (1, [.ref v1, .int 0, .int 0, .int (nI t.length)])), (v1, .inl (Y.2.2.1.1, m1, .inl f2))]) H := hP
  have hD : va_D A ([(h, .inr (1, [.ref v1, .int 0, .int 0, .int (nI t.length)])), (v1, .inl (Y.2.2.1.1, m1, .inl f2))]) := hD
  have hE : t.length + (dg k0).length = (t ++ dg k0).length := by rw [List.length_append]
  refine lv_pop hx hb dJ5_append_c97b9_33 rfl ?_
  refine lv_goto (tgt := 48) hx hb dJ5_append_c97b9_34 (by decide) ?_
  refine lv_aload_n hx hb dJ5_append_c97b9_48 rfl (lv_at hl 2 rfl) ?_
  refine lv_iload_n hx hb dJ5_append_c97b9_49 rfl (lv_at hl 0 rfl) ?_
  refine lv_topi (fun x3 ex3 => ?_)
  have ex3 : x3 = nI (t ++ dg k0).length := ex3.trans (by rw [hE])
  subst ex3
  refine n_put hC hb hP hD hS inGJ4 tyJ4 tyJ4_ok nmJ4 0 rfl rfl 3 (by decide) (gw_t (tb4 (List.mem_of_getElem? (i := 21) rfl)) rfl) rfl rfl rfl rfl rfl (Nat.le_of_ble_eq_true rfl) dJ5_append_c97b9_50 (fun H locs hP hD hS => ?_)
  have hP : va_P D vwCl ([(h, .inr (1, [.ref v1, .int 0, .int 0, .int (nI (t ++ dg k0).length)])), (v1, .inl (Y.2.2.1.1, m1, .inl f2))]) H := hP
  have hD : va_D A ([(h, .inr (1, [.ref v1, .int 0, .int 0, .int (nI (t ++ dg k0).length)])), (v1, .inl (Y.2.2.1.1, m1, .inl f2))]) := hD
  refine lv_aload_n hx hb dJ5_append_c97b9_53 rfl (lv_at hl 2 rfl) ?_
  exact g_aret ((v1, m1, f2)) h hF (Or.inl ⟨_, rfl⟩) (⟨rfl, CT_app (f' := f2) (m' := m1) hc p1 p3 hq.1 (fun j hj => (hq.2.1 j hj).trans (p5 j (Nat.lt_of_lt_of_le hj hc.1))) hq.2.2⟩) hP hD hS dJ5_append_c97b9_54 (Nat.le_of_ble_eq_true rfl) (Nat.le_of_ble_eq_true rfl)

abbrev rn_J4_append_bf812 : Room := { frames := 5, cells := 1, slots := 802, locals := 300 }
set_option maxHeartbeats 4000000 in
set_option maxRecDepth 100000 in
theorem c_J4_append_bf812 {l : Launch} {D : va_G} {Y : CYs} {h v mm k0 : Nat} {f : Nat → Int32} {t : List Nat} (hk : k0 < 100) (hc : CT t mm f) (hl4 : t.length + 2 ≤ 400) (sz : Nat) : Met l yJ4_append_bf812 (Cond.code yJ4_append_bf812 cJ4_append_bf812 2 (some (.object "java/lang/StringBuilder")) :: gW) rn_J4_append_bf812 (PcE XN ([(h, .inr (1, [.ref v, .int 0, .int 0, .int (nI t.length)])), (v, .inl (Y.2.2.1.1, mm, .inl f))]) Y D sz [.ref h, .int (nI k0)]) (GR (S := Nat × Nat × (Nat → Int32)) (fun u r => r = h ∧ CT (t ++ dg k0) u.2.1 u.2.2) (fun u _ => sbW Y h (t ++ dg k0).length u) Y D (va_A ([(h, .inr (1, [.ref v, .int 0, .int 0, .int (nI t.length)])), (v, .inl (Y.2.2.1.1, mm, .inl f))]) sz)) 1 802 (va_A ([(h, .inr (1, [.ref v, .int 0, .int 0, .int (nI t.length)])), (v, .inl (Y.2.2.1.1, mm, .inl f))]) sz) := by
  refine Met_ofE (Qc := GR (S := Nat × Nat × (Nat → Int32)) (fun u r => r = h ∧ CT (t ++ dg k0) u.2.1 u.2.2) (fun u _ => sbW Y h (t ++ dg k0).length u) Y D) (by decide) (Nat.le_of_ble_eq_true rfl) (fun p e s m args below meth c A hF hX hin hP hD hS ls hl => ?_) sz
  obtain ⟨hC, hb, hml, hr, hlk, hSW, hA⟩ := id hF
  have hx := hC.1
  have hl : lv_has ls 2 [(0, .ref h), (1, .int (nI k0))] := hl
  refine lv_aload_n hx hb dJ4_append_bf812_0 rfl (lv_at hl 0 rfl) ?_
  refine lv_iload_n hx hb dJ4_append_bf812_1 rfl (lv_at hl 1 rfl) ?_
  refine g_r (Rs := []) (C0 := [(h, .inr (1, [.ref v, .int 0, .int 0, .int (nI t.length)])), (v, .inl (Y.2.2.1.1, mm, .inl f))]) (As := [.ref h, .int (nI k0)]) hF hP hD hS XN_ok trivial (rSU (hC.2.2.2.1.1 1 _ rfl).2 (As := [.int (nI k0)]) (rest := []) hF hl (c_J5_append_c97b9 hk hc hl4 _) (va_cwSU 1 hC.2.1 (gi_SU (gw_t (tb4 (List.mem_of_getElem? (i := 154) rfl)) rfl) (gw_t (tb6 (List.mem_of_getElem? (i := 162) rfl)) rfl) (gw_t (tb4 (List.mem_of_getElem? (i := 30) rfl)) rfl) (gw_t (tb4 (List.mem_of_getElem? (i := 155) rfl)) rfl) (gw_t (tb1 (List.mem_of_getElem? (i := 11) rfl)) rfl) (gw_t (tb4 (List.mem_of_getElem? (i := 156) rfl)) rfl)) rfl rfl rfl ⟨by decide +kernel, by decide +kernel⟩ ⟨(Nat.le_of_ble_eq_true rfl), (Nat.le_of_ble_eq_true rfl)⟩) (va_recv hC.2.2.2.1 hP (q0 := 0) rfl rfl) rfl rfl (Nat.le_of_ble_eq_true rfl) dJ4_append_bf812_2 ⟨(Nat.le_of_ble_eq_true rfl), (Nat.le_of_ble_eq_true rfl)⟩) (fun r u H locs hp hP hD hS => ?_)
  have hP : va_P D vwCl ([(h, .inr (1, [.ref u.1, .int 0, .int 0, .int (nI ((t ++ dg k0).length))])), (u.1, .inl (Y.2.2.1.1, u.2.1, .inl u.2.2))]) H := hP
  have hD : va_D A ([(h, .inr (1, [.ref u.1, .int 0, .int 0, .int (nI ((t ++ dg k0).length))])), (u.1, .inl (Y.2.2.1.1, u.2.1, .inl u.2.2))]) := hD
  refine lv_pop hx hb dJ4_append_bf812_5 rfl ?_
  refine lv_aload_n hx hb dJ4_append_bf812_6 rfl (lv_at hl 0 rfl) ?_
  exact g_aret u h hF (Or.inl ⟨_, rfl⟩) (⟨rfl, hp.2⟩) hP hD hS dJ4_append_bf812_7 (Nat.le_of_ble_eq_true rfl) (Nat.le_of_ble_eq_true rfl)
