/-! (by wip/p32/sb.py) -/
abbrev rn_J5_append_cf1ce : Room := { frames := 5, cells := 1, slots := 802, locals := 300 }
set_option maxHeartbeats 4000000 in
set_option maxRecDepth 100000 in
theorem c_J5_append_cf1ce {l : Launch} {D : va_G} {Y : CYs} {h v mm : Nat} {f : Nat → Int32} {t w : List Nat} {N a v0 : Nat} {bs : List Int32} (hc : CT t mm f) (hwl : w.length = N) (hl4 : t.length + N ≤ 400) (hbs : SB bs w) (sz : Nat) : Met l yJ5_append_cf1ce (Cond.code yJ5_append_cf1ce cJ5_append_cf1ce 3 (some (.object "java/lang/AbstractStringBuilder")) :: gW) rn_J5_append_cf1ce (PcE (STA N bs a v0) ([(h, .inr (1, [.ref v, .int 0, .int 0, .int (nI t.length)])), (v, .inl (Y.2.2.1.1, mm, .inl f))]) Y D sz [.ref h, .ref a]) (GR (S := Nat × Nat × (Nat → Int32)) (fun u r => r = h ∧ CT (t ++ w) u.2.1 u.2.2) (fun u _ => sbW Y h (t ++ w).length u) Y D (va_A ([(h, .inr (1, [.ref v, .int 0, .int 0, .int (nI t.length)])), (v, .inl (Y.2.2.1.1, mm, .inl f))]) sz)) 1 802 (va_A ([(h, .inr (1, [.ref v, .int 0, .int 0, .int (nI t.length)])), (v, .inl (Y.2.2.1.1, mm, .inl f))]) sz) := by
  refine Met_ofE (Qc := GR (S := Nat × Nat × (Nat → Int32)) (fun u r => r = h ∧ CT (t ++ w) u.2.1 u.2.2) (fun u _ => sbW Y h (t ++ w).length u) Y D) (by decide) (Nat.le_of_ble_eq_true rfl) (fun p e s m args below meth c A hF hX hin hP hD hS ls hl => ?_) sz
  obtain ⟨hC, hb, hml, hr, hlk, hSW, hA⟩ := id hF
  have hx := hC.1
  have hl : lv_has ls 3 [(0, .ref h), (1, .ref a)] := hl
  have hbf : ∀ j, j < N → fits .byte (.int (bs.getD j 0)) = true := fun j hj => by rw [hbs.1 j (by omega)]; exact fit_b _ (hbs.2 j (by omega))
  refine lv_aload_n hx hb dJ5_append_cf1ce_0 rfl (lv_at hl 1 rfl) ?_
  refine lv_ifnonnull (tgt := 9) hx hb dJ5_append_cf1ce_1 (by decide) ?_
  refine lv_aload_n hx hb dJ5_append_cf1ce_9 rfl (lv_at hl 1 rfl) ?_
  refine g_i (Rs := [(h, .inr (1, [.ref v, .int 0, .int 0, .int (nI t.length)])), (v, .inl (Y.2.2.1.1, mm, .inl f))]) (C0 := []) (As := [.ref a]) hF hP hD hS STA_ok (X_at (Rs := [(h, .inr (1, [.ref v, .int 0, .int 0, .int (nI t.length)])), (v, .inl (Y.2.2.1.1, mm, .inl f))]) (C0 := []) STA_ok hF hX hD hS) (rV (As := []) (rest := []) hF hl (cE_length _) (cwV 0 hC.2.1 (gi_V (gw_t (tb4 (List.mem_of_getElem? (i := 107) rfl)) rfl) (gw_t (tb4 (List.mem_of_getElem? (i := 108) rfl)) rfl) (gw_t (tb4 (List.mem_of_getElem? (i := 109) rfl)) rfl) (gw_t (tb1 (List.mem_of_getElem? (i := 13) rfl)) rfl) (gw_t (tb4 (List.mem_of_getElem? (i := 110) rfl)) rfl)) rfl rfl rfl ⟨rfl, by decide +kernel, by decide +kernel, by decide +kernel⟩ ⟨(Nat.le_of_ble_eq_true rfl), (Nat.le_of_ble_eq_true rfl)⟩) (sta_cell hX hS) rfl rfl (Nat.le_of_ble_eq_true rfl) dJ5_append_cf1ce_10 ⟨(Nat.le_of_ble_eq_true rfl), (Nat.le_of_ble_eq_true rfl)⟩) (fun r u H locs hp hP hD hS => ?_)
  obtain ⟨hp, -⟩ := hp
  subst hp
  have hP : va_P D vwCl ([(h, .inr (1, [.ref v, .int 0, .int 0, .int (nI t.length)])), (v, .inl (Y.2.2.1.1, mm, .inl f))]) H := hP
  have hD : va_D A ([(h, .inr (1, [.ref v, .int 0, .int 0, .int (nI t.length)])), (v, .inl (Y.2.2.1.1, mm, .inl f))]) := hD
  refine lv_istore_n (lv' := [(2, .int (nI N)), (0, .ref h), (1, .ref a)]) hx hb dJ5_append_cf1ce_13 rfl hl (by decide) rfl (fun ls hl => ?_)
  refine lv_aload_n hx hb dJ5_append_cf1ce_14 rfl (lv_at hl 1 rfl) ?_
  refine lv_aload_n hx hb dJ5_append_cf1ce_15 rfl (lv_at hl 1 rfl) ?_
  refine n_get hC hb hP inGJ4 0 rfl rfl 3 (by decide) rfl (gw_t (tb4 (List.mem_of_getElem? (i := 21) rfl)) rfl) rfl dJ5_append_cf1ce_16 ?_
  refine lv_iload_n hx hb dJ5_append_cf1ce_19 rfl (lv_at hl 0 rfl) ?_
  refine lv_iadd hx hb dJ5_append_cf1ce_20 ?_
  refine lv_topi (fun x1 ex1 => ?_)
  have ex1 : x1 = nI (t.length + N) := ex1.trans (nI_add _ _)
  subst ex1
  refine g_v (Rs := []) (C0 := [(h, .inr (1, [.ref v, .int 0, .int 0, .int (nI t.length)])), (v, .inl (Y.2.2.1.1, mm, .inl f))]) (As := [.ref h, .int (nI (t.length + N))]) hF hP hD hS XN_ok trivial (rU (As := [.int (nI (t.length + N))]) (rest := []) hF hl (c_J5_ensureCapacityInternal_d00df (mm := mm) (qq := t.length + N) hc.2.1 (by omega) hc.2.2.1 _) (cu_of 1 hC (gw_t (tb4 (List.mem_of_getElem? (i := 46) rfl)) rfl) rfl rfl ⟨(Nat.le_of_ble_eq_true rfl), (Nat.le_of_ble_eq_true rfl)⟩ (gw_t (tb4 (List.mem_of_getElem? (i := 43) rfl)) rfl) (gw_t (tb6 (List.mem_of_getElem? (i := 157) rfl)) rfl) (gw_t (tb4 (List.mem_of_getElem? (i := 45) rfl)) rfl) (gw_t (tb1 (List.mem_of_getElem? (i := 11) rfl)) rfl) (hC.2.1 (Cond.selects RJ4 yJ5_ensureCapacityInternal_d00df yJ5_ensureCapacityInternal_d00df) (gw_p (List.mem_of_getElem? (i := 1) rfl) rfl)) ⟨by decide +kernel, by decide +kernel, by decide +kernel⟩) (va_recv hC.2.2.2.1 hP (q0 := 0) rfl rfl) rfl rfl (Nat.le_of_ble_eq_true rfl) dJ5_append_cf1ce_21 ⟨(Nat.le_of_ble_eq_true rfl), (Nat.le_of_ble_eq_true rfl)⟩) (fun u H locs hp hP hD hS => ?_)
  obtain ⟨v1, m1, f1⟩ := u
  obtain ⟨p1, p2, p3, p4, p5⟩ := hp
  have p1 : t.length + N ≤ m1 := p1
  have p2 : mm ≤ m1 := p2
  have p3 : m1 ≤ 802 := p3
  have p4 : FB f1 := p4
  have p5 : ∀ j, j < mm → f1 j = f j := p5
  have hP : va_P D vwCl ([(h, .inr (1, [.ref v1, .int 0, .int 0, .int (nI t.length)])), (v1, .inl (Y.2.2.1.1, m1, .inl f1))]) H := hP
  have hD : va_D A ([(h, .inr (1, [.ref v1, .int 0, .int 0, .int (nI t.length)])), (v1, .inl (Y.2.2.1.1, m1, .inl f1))]) := hD
  refine lv_aload_n hx hb dJ5_append_cf1ce_24 rfl (lv_at hl 1 rfl) ?_
  refine lv_aload_n hx hb dJ5_append_cf1ce_25 rfl (lv_at hl 1 rfl) ?_
  refine n_get hC hb hP inGJ4 0 rfl rfl 3 (by decide) rfl (gw_t (tb4 (List.mem_of_getElem? (i := 21) rfl)) rfl) rfl dJ5_append_cf1ce_26 ?_
  refine lv_aload_n hx hb dJ5_append_cf1ce_29 rfl (lv_at hl 2 rfl) ?_
  refine g_v (Rs := []) (C0 := [(h, .inr (1, [.ref v1, .int 0, .int 0, .int (nI t.length)])), (v1, .inl (Y.2.2.1.1, m1, .inl f1))]) (As := [.ref h, .int (nI t.length), .ref a]) hF hP hD hS STA_ok (X_at (Rs := []) (C0 := [(h, .inr (1, [.ref v1, .int 0, .int 0, .int (nI t.length)])), (v1, .inl (Y.2.2.1.1, m1, .inl f1))]) STA_ok hF hX hD hS) (rU (As := [.int (nI t.length), .ref a]) (rest := []) hF hl (c_J5_putStringAt_47b60 p1 p3 hbf _) (cu_of 2 hC (gw_t (tb4 (List.mem_of_getElem? (i := 119) rfl)) rfl) rfl rfl ⟨(Nat.le_of_ble_eq_true rfl), (Nat.le_of_ble_eq_true rfl)⟩ (gw_t (tb4 (List.mem_of_getElem? (i := 116) rfl)) rfl) (gw_t (tb6 (List.mem_of_getElem? (i := 159) rfl)) rfl) (gw_t (tb4 (List.mem_of_getElem? (i := 118) rfl)) rfl) (gw_t (tb1 (List.mem_of_getElem? (i := 11) rfl)) rfl) (hC.2.1 (Cond.selects RJ4 yJ5_putStringAt_47b60 yJ5_putStringAt_47b60) (gw_p (List.mem_of_getElem? (i := 3) rfl) rfl)) ⟨by decide +kernel, by decide +kernel, by decide +kernel⟩) (va_recv hC.2.2.2.1 hP (q0 := 0) rfl rfl) rfl rfl (Nat.le_of_ble_eq_true rfl) dJ5_append_cf1ce_30 ⟨(Nat.le_of_ble_eq_true rfl), (Nat.le_of_ble_eq_true rfl)⟩) (fun u H locs hp hP hD hS => ?_)
  have hP : va_P D vwCl ([(h, .inr (1, [.ref v1, .int 0, .int 0, .int (nI t.length)])), (v1, .inl (Y.2.2.1.1, m1, .inl (va_cpy (fun j => bs.getD j 0) f1 0 t.length N)))]) H := hP
  have hD : va_D A ([(h, .inr (1, [.ref v1, .int 0, .int 0, .int (nI t.length)])), (v1, .inl (Y.2.2.1.1, m1, .inl (va_cpy (fun j => bs.getD j 0) f1 0 t.length N)))]) := hD
  refine lv_aload_n hx hb dJ5_append_cf1ce_33 rfl (lv_at hl 1 rfl) ?_
  refine lv_dup hx hb dJ5_append_cf1ce_34 rfl ?_
  refine n_get hC hb hP inGJ4 0 rfl rfl 3 (by decide) rfl (gw_t (tb4 (List.mem_of_getElem? (i := 21) rfl)) rfl) rfl dJ5_append_cf1ce_35 ?_
  refine lv_iload_n hx hb dJ5_append_cf1ce_38 rfl (lv_at hl 0 rfl) ?_
  refine lv_iadd hx hb dJ5_append_cf1ce_39 ?_
  refine lv_topi (fun x2 ex2 => ?_)
  have ex2 : x2 = nI (t ++ w).length := ex2.trans (by rw [List.length_append, hwl]; exact nI_add _ _)
  subst ex2
  refine n_put hC hb hP hD hS inGJ4 tyJ4 tyJ4_ok nmJ4 0 rfl rfl 3 (by decide) (gw_t (tb4 (List.mem_of_getElem? (i := 21) rfl)) rfl) rfl rfl rfl rfl rfl (Nat.le_of_ble_eq_true rfl) dJ5_append_cf1ce_40 (fun H locs hP hD hS => ?_)
  have hP : va_P D vwCl ([(h, .inr (1, [.ref v1, .int 0, .int 0, .int (nI (t ++ w).length)])), (v1, .inl (Y.2.2.1.1, m1, .inl (va_cpy (fun j => bs.getD j 0) f1 0 t.length N)))]) H := hP
  have hD : va_D A ([(h, .inr (1, [.ref v1, .int 0, .int 0, .int (nI (t ++ w).length)])), (v1, .inl (Y.2.2.1.1, m1, .inl (va_cpy (fun j => bs.getD j 0) f1 0 t.length N)))]) := hD
  refine lv_aload_n hx hb dJ5_append_cf1ce_43 rfl (lv_at hl 1 rfl) ?_
  exact g_aret ((v1, m1, va_cpy (fun j => bs.getD j 0) f1 0 t.length N)) h hF (Or.inl ⟨_, rfl⟩) (⟨rfl, CT_app (f' := va_cpy (fun j => bs.getD j 0) f1 0 t.length N) (m' := m1) hc (by rw [hwl]; exact p1) p3 (FB_bs hbf p4) (fun j hj => (cpL hj).trans (p5 j (Nat.lt_of_lt_of_le hj hc.1))) (fun j hj => (cpR (by omega)).trans (hbs.1 j hj))⟩) hP hD hS dJ5_append_cf1ce_44 (Nat.le_of_ble_eq_true rfl) (Nat.le_of_ble_eq_true rfl)

abbrev rn_J4_append_15ec4 : Room := { frames := 6, cells := 1, slots := 802, locals := 360 }
set_option maxHeartbeats 4000000 in
set_option maxRecDepth 100000 in
theorem c_J4_append_15ec4 {l : Launch} {D : va_G} {Y : CYs} {h v mm : Nat} {f : Nat → Int32} {t w : List Nat} {N a v0 : Nat} {bs : List Int32} (hc : CT t mm f) (hwl : w.length = N) (hl4 : t.length + N ≤ 400) (hbs : SB bs w) (sz : Nat) : Met l yJ4_append_15ec4 (Cond.code yJ4_append_15ec4 cJ4_append_15ec4 2 (some (.object "java/lang/StringBuilder")) :: gW) rn_J4_append_15ec4 (PcE (STA N bs a v0) ([(h, .inr (1, [.ref v, .int 0, .int 0, .int (nI t.length)])), (v, .inl (Y.2.2.1.1, mm, .inl f))]) Y D sz [.ref h, .ref a]) (GR (S := Nat × Nat × (Nat → Int32)) (fun u r => r = h ∧ CT (t ++ w) u.2.1 u.2.2) (fun u _ => sbW Y h (t ++ w).length u) Y D (va_A ([(h, .inr (1, [.ref v, .int 0, .int 0, .int (nI t.length)])), (v, .inl (Y.2.2.1.1, mm, .inl f))]) sz)) 1 802 (va_A ([(h, .inr (1, [.ref v, .int 0, .int 0, .int (nI t.length)])), (v, .inl (Y.2.2.1.1, mm, .inl f))]) sz) := by
  refine Met_ofE (Qc := GR (S := Nat × Nat × (Nat → Int32)) (fun u r => r = h ∧ CT (t ++ w) u.2.1 u.2.2) (fun u _ => sbW Y h (t ++ w).length u) Y D) (by decide) (Nat.le_of_ble_eq_true rfl) (fun p e s m args below meth c A hF hX hin hP hD hS ls hl => ?_) sz
  obtain ⟨hC, hb, hml, hr, hlk, hSW, hA⟩ := id hF
  have hx := hC.1
  have hl : lv_has ls 2 [(0, .ref h), (1, .ref a)] := hl
  refine lv_aload_n hx hb dJ4_append_15ec4_0 rfl (lv_at hl 0 rfl) ?_
  refine lv_aload_n hx hb dJ4_append_15ec4_1 rfl (lv_at hl 1 rfl) ?_
  refine g_r (Rs := []) (C0 := [(h, .inr (1, [.ref v, .int 0, .int 0, .int (nI t.length)])), (v, .inl (Y.2.2.1.1, mm, .inl f))]) (As := [.ref h, .ref a]) hF hP hD hS STA_ok (X_at (Rs := []) (C0 := [(h, .inr (1, [.ref v, .int 0, .int 0, .int (nI t.length)])), (v, .inl (Y.2.2.1.1, mm, .inl f))]) STA_ok hF hX hD hS) (rSU (hC.2.2.2.1.1 1 _ rfl).2 (As := [.ref a]) (rest := []) hF hl (c_J5_append_cf1ce hc hwl hl4 hbs _) (va_cwSU 1 hC.2.1 (gi_SU (gw_t (tb4 (List.mem_of_getElem? (i := 36) rfl)) rfl) (gw_t (tb6 (List.mem_of_getElem? (i := 155) rfl)) rfl) (gw_t (tb4 (List.mem_of_getElem? (i := 30) rfl)) rfl) (gw_t (tb4 (List.mem_of_getElem? (i := 37) rfl)) rfl) (gw_t (tb1 (List.mem_of_getElem? (i := 11) rfl)) rfl) (gw_t (tb4 (List.mem_of_getElem? (i := 38) rfl)) rfl)) rfl rfl rfl ⟨by decide +kernel, by decide +kernel⟩ ⟨(Nat.le_of_ble_eq_true rfl), (Nat.le_of_ble_eq_true rfl)⟩) (va_recv hC.2.2.2.1 hP (q0 := 0) rfl rfl) rfl rfl (Nat.le_of_ble_eq_true rfl) dJ4_append_15ec4_2 ⟨(Nat.le_of_ble_eq_true rfl), (Nat.le_of_ble_eq_true rfl)⟩) (fun r u H locs hp hP hD hS => ?_)
  have hP : va_P D vwCl ([(h, .inr (1, [.ref u.1, .int 0, .int 0, .int (nI ((t ++ w).length))])), (u.1, .inl (Y.2.2.1.1, u.2.1, .inl u.2.2))]) H := hP
  have hD : va_D A ([(h, .inr (1, [.ref u.1, .int 0, .int 0, .int (nI ((t ++ w).length))])), (u.1, .inl (Y.2.2.1.1, u.2.1, .inl u.2.2))]) := hD
  refine lv_pop hx hb dJ4_append_15ec4_5 rfl ?_
  refine lv_aload_n hx hb dJ4_append_15ec4_6 rfl (lv_at hl 0 rfl) ?_
  exact g_aret u h hF (Or.inl ⟨_, rfl⟩) (⟨rfl, hp.2⟩) hP hD hS dJ4_append_15ec4_7 (Nat.le_of_ble_eq_true rfl) (Nat.le_of_ble_eq_true rfl)
