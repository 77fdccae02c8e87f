/-! (by wip/p32/sb.py) -/
abbrev rn_J7_copyOf_9075b : Room := { frames := 1, cells := 1, slots := 802, locals := 60 }
set_option maxHeartbeats 4000000 in
set_option maxRecDepth 100000 in
theorem c_J7_copyOf_9075b {l : Launch} {D : va_G} {Y : CYs} {v mm qq : Nat} {f : Nat → Int32} (hmq : mm < qq) (hq : qq ≤ 802) (hf : FB f) (sz : Nat) : Met l yJ7_copyOf_9075b (Cond.code yJ7_copyOf_9075b cJ7_copyOf_9075b 3 (some (.array .byte)) :: gW) rn_J7_copyOf_9075b (PcE XN ([(v, .inl (Y.2.2.1.1, mm, .inl f))]) Y D sz [.ref v, .int (nI qq)]) (GR (S := Unit) (fun _ _ => True) (fun _ r => [(v, .inl (Y.2.2.1.1, mm, .inl f)), (r, .inl (Y.2.2.1.1, qq, .inl (va_cpy f (fun _ => 0) 0 0 mm)))]) Y D (va_A ([(v, .inl (Y.2.2.1.1, mm, .inl f))]) sz)) 1 802 (va_A ([(v, .inl (Y.2.2.1.1, mm, .inl f))]) sz) := by
  refine Met_ofE (Qc := GR (S := Unit) (fun _ _ => True) (fun _ r => [(v, .inl (Y.2.2.1.1, mm, .inl f)), (r, .inl (Y.2.2.1.1, qq, .inl (va_cpy f (fun _ => 0) 0 0 mm)))]) Y D) (by decide) (Nat.le_of_ble_eq_true rfl) (fun p e s m args below meth c A hF hX hin hP hD hS ls hl => ?_) sz
  obtain ⟨hC, hb, hml, hr, hlk, hSW, hA⟩ := id hF
  have hx := hC.1
  have hl : lv_has ls 3 [(0, .ref v), (1, .int (nI qq))] := hl
  refine lv_iload_n hx hb dJ7_copyOf_9075b_0 rfl (lv_at hl 1 rfl) ?_
  refine lv_aload_n hx hb dJ7_copyOf_9075b_1 rfl (lv_at hl 0 rfl) ?_
  refine va_alen (v := nI mm) hx hb hC.2.2.2.1 hP 0 2 rfl rfl rfl dJ7_copyOf_9075b_2 ?_
  refine lv_icmp_ne (tgt := 14) hx hb dJ7_copyOf_9075b_3 (by decide) (fun c1 => ?_) (fun c1 => False.elim (by have := (nI_eq (a := qq) (b := mm) (by omega) (by omega)).mp c1; omega))
  refine lv_iload_n hx hb dJ7_copyOf_9075b_14 rfl (lv_at hl 1 rfl) ?_
  refine n_arrB (N' := qq) hC hb hP hD hS hA (nI_pos (by omega)) (nI_clamp (by omega)) (by omega) (Nat.le_of_ble_eq_true rfl) (by show 0 + qq ≤ 802; omega) dJ7_copyOf_9075b_15 (fun w H hP hD hS => ?_)
  have hP : va_P D vwCl ([(v, .inl (Y.2.2.1.1, mm, .inl f)), (w, .inl (Y.2.2.1.1, qq, .inl (fun _ => 0)))]) H := hP
  have hD : va_D A ([(v, .inl (Y.2.2.1.1, mm, .inl f)), (w, .inl (Y.2.2.1.1, qq, .inl (fun _ => 0)))]) := hD
  refine lv_astore_n (lv' := [(2, .ref w), (0, .ref v), (1, .int (nI qq))]) hx hb dJ7_copyOf_9075b_17 rfl hl (by decide) rfl (fun ls hl => ?_)
  refine lv_aload_n hx hb dJ7_copyOf_9075b_18 rfl (lv_at hl 1 rfl) ?_
  refine lv_iconst (v := 0) hx hb dJ7_copyOf_9075b_19 (by decide) ?_
  refine lv_aload_n hx hb dJ7_copyOf_9075b_20 rfl (lv_at hl 0 rfl) ?_
  refine lv_iconst (v := 0) hx hb dJ7_copyOf_9075b_21 (by decide) ?_
  refine lv_aload_n hx hb dJ7_copyOf_9075b_22 rfl (lv_at hl 1 rfl) ?_
  refine va_alen (v := nI mm) hx hb hC.2.2.2.1 hP 0 2 rfl rfl rfl dJ7_copyOf_9075b_23 ?_
  refine lv_iload_n hx hb dJ7_copyOf_9075b_24 rfl (lv_at hl 2 rfl) ?_
  refine va_mmin (rest := [.int 0, .ref w, .int 0, .ref v]) hx hb (by rw [hml]; exact hl.1.symm) hC.2.2.1 (hC.2.1 (Cond.methodLink RJ7 304 Lib.Math.min.name) (gw_t (tb4 (List.mem_of_getElem? (i := 72) rfl)) rfl)) (hC.2.1 (Cond.static Lib.Math.min.name) (gw_t (tb4 (List.mem_of_getElem? (i := 73) rfl)) rfl)) (hC.2.1 (Cond.initialized "java/lang/Math") (gw_t (tb1 (List.mem_of_getElem? (i := 16) rfl)) rfl)) (hC.2.1 (Cond.code Lib.Math.min.name Lib.Math.min.code 2 (some .int)) (gw_t (tb4 (List.mem_of_getElem? (i := 74) rfl)) rfl)) (Nat.le_of_ble_eq_true rfl) (Nat.le_of_ble_eq_true rfl) (Nat.le_of_ble_eq_true rfl) (by show 0 + qq ≤ 802; omega) dJ7_copyOf_9075b_25 ?_
  refine lv_topi (fun x2 ex2 => ?_)
  have ex2 : x2 = nI mm := ex2.trans (if_neg (nI_nlt (by omega) (by omega)))
  subst ex2
  refine va_copyi (rest := []) hx hb (by rw [hml]; exact hl.1.symm) hC.2.2.1 (hC.2.1 (Cond.methodLink RJ7 150 arraycopyName) (gw_t (tb4 (List.mem_of_getElem? (i := 75) rfl)) rfl)) (hC.2.1 (Cond.native arraycopyName) (gw_t (tb3 (List.mem_of_getElem? (i := 106) rfl)) rfl)) (hC.2.1 (Cond.static arraycopyName) (gw_t (tb3 (List.mem_of_getElem? (i := 105) rfl)) rfl)) (hC.2.1 (Cond.initialized "java/lang/System") (gw_t (tb1 (List.mem_of_getElem? (i := 18) rfl)) rfl)) hC.2.2.2.1 hP hD hS 0 1 2 2 rfl rfl rfl rfl rfl (by decide) (by decide) (nI_pos (by omega)) (by rw [nI_clamp (by omega)]; show 0 + mm ≤ mm; omega) (by rw [nI_clamp (by omega)]; show 0 + mm ≤ qq; omega) (fun i _ => hf _) (Nat.le_of_ble_eq_true rfl) (Nat.le_of_ble_eq_true rfl) dJ7_copyOf_9075b_28 (fun H locs hP hD hS => ?_)
  rw [show (0 : Int32).toNatClampNeg = 0 from rfl, nI_clamp (n := mm) (by omega)] at hP hD
  have hP : va_P D vwCl ([(v, .inl (Y.2.2.1.1, mm, .inl f)), (w, .inl (Y.2.2.1.1, qq, .inl (va_cpy f (fun _ => 0) 0 0 mm)))]) H := hP
  have hD : va_D A ([(v, .inl (Y.2.2.1.1, mm, .inl f)), (w, .inl (Y.2.2.1.1, qq, .inl (va_cpy f (fun _ => 0) 0 0 mm)))]) := hD
  refine lv_aload_n hx hb dJ7_copyOf_9075b_31 rfl (lv_at hl 0 rfl) ?_
  exact g_aret (()) w hF (Or.inr ⟨_, rfl⟩) trivial hP hD hS dJ7_copyOf_9075b_32 (Nat.le_of_ble_eq_true rfl) (by show 0 + qq ≤ 802; omega)

abbrev rn_J8_newLength_cabcc : Room := { frames := 1, cells := 0, slots := 0, locals := 60 }
set_option maxHeartbeats 4000000 in
set_option maxRecDepth 100000 in
theorem c_J8_newLength_cabcc {l : Launch} {D : va_G} {Y : CYs} {aa bb cc0 : Nat} (h1 : aa ≤ 802) (h2 : bb ≤ 802) (h3 : cc0 ≤ 804) (h4 : 0 < aa + bb + cc0) (sz : Nat) : Met l yJ8_newLength_cabcc (Cond.code yJ8_newLength_cabcc cJ8_newLength_cabcc 4 (some .int) :: gW) rn_J8_newLength_cabcc (PcE XN ([]) Y D sz [.int (nI aa), .int (nI bb), .int (nI cc0)]) (GI (S := Unit) (fun r _ => r = nI (aa + (if bb < cc0 then cc0 else bb))) (fun _ => []) Y D (va_A ([]) sz)) 0 0 (va_A ([]) sz) := by
  refine Met_ofE (Qc := GI (S := Unit) (fun r _ => r = nI (aa + (if bb < cc0 then cc0 else bb))) (fun _ => []) Y D) (by decide) (Nat.le_of_ble_eq_true rfl) (fun p e s m args below meth c A hF hX hin hP hD hS ls hl => ?_) sz
  obtain ⟨hC, hb, hml, hr, hlk, hSW, hA⟩ := id hF
  have hx := hC.1
  have hl : lv_has ls 4 [(0, .int (nI aa)), (1, .int (nI bb)), (2, .int (nI cc0))] := hl
  refine lv_iload_n hx hb dJ8_newLength_cabcc_0 rfl (lv_at hl 0 rfl) ?_
  refine lv_iload_n hx hb dJ8_newLength_cabcc_1 rfl (lv_at hl 1 rfl) ?_
  refine lv_iload_n hx hb dJ8_newLength_cabcc_2 rfl (lv_at hl 2 rfl) ?_
  refine va_mmax (rest := [.int (nI aa)]) hx hb (by rw [hml]; exact hl.1.symm) hC.2.2.1 (hC.2.1 (Cond.methodLink RJ8 194 Lib.Math.max.name) (gw_t (tb4 (List.mem_of_getElem? (i := 54) rfl)) rfl)) (hC.2.1 (Cond.static Lib.Math.max.name) (gw_t (tb4 (List.mem_of_getElem? (i := 55) rfl)) rfl)) (hC.2.1 (Cond.initialized "java/lang/Math") (gw_t (tb1 (List.mem_of_getElem? (i := 16) rfl)) rfl)) (hC.2.1 (Cond.code Lib.Math.max.name Lib.Math.max.code 2 (some .int)) (gw_t (tb4 (List.mem_of_getElem? (i := 56) rfl)) rfl)) (Nat.le_of_ble_eq_true rfl) (Nat.le_of_ble_eq_true rfl) (Nat.le_of_ble_eq_true rfl) (Nat.le_of_ble_eq_true rfl) dJ8_newLength_cabcc_3 ?_
  refine lv_topi (fun x1 ex1 => ?_)
  have ex1 : x1 = nI (if bb < cc0 then cc0 else bb) := ex1.trans (mx_n (by omega) (by omega))
  subst ex1
  refine lv_iadd hx hb dJ8_newLength_cabcc_6 ?_
  refine lv_topi (fun x2 ex2 => ?_)
  have ex2 : x2 = nI (aa + (if bb < cc0 then cc0 else bb)) := ex2.trans (nI_add _ _)
  subst ex2
  refine lv_istore_n (lv' := [(3, .int (nI (aa + (if bb < cc0 then cc0 else bb)))), (0, .int (nI aa)), (1, .int (nI bb)), (2, .int (nI cc0))]) hx hb dJ8_newLength_cabcc_7 rfl hl (by decide) rfl (fun ls hl => ?_)
  refine lv_iconst (v := 0) hx hb dJ8_newLength_cabcc_8 (by decide) ?_
  refine lv_iload_n hx hb dJ8_newLength_cabcc_9 rfl (lv_at hl 0 rfl) ?_
  have hk : 0 < aa + (if bb < cc0 then cc0 else bb) ∧ aa + (if bb < cc0 then cc0 else bb) < 2000 := by split <;> omega
  refine lv_icmp_ge (tgt := 21) hx hb dJ8_newLength_cabcc_10 (by decide) (fun c3 => False.elim (nI_nle hk.1 (by omega) c3)) (fun c3 => ?_)
  refine lv_iload_n hx hb dJ8_newLength_cabcc_13 rfl (lv_at hl 0 rfl) ?_
  refine lv_ldc (v := 2147483639) hx hb hC.2.2.1 (hC.2.1 (Cond.constant RJ8 200 2147483639) (gw_t (tb4 (List.mem_of_getElem? (i := 57) rfl)) rfl)) dJ8_newLength_cabcc_14 ?_
  refine lv_icmp_gt (tgt := 21) hx hb dJ8_newLength_cabcc_16 (by decide) (fun c4 => False.elim (nI_nlt (a := 2147483639) (b := aa + (if bb < cc0 then cc0 else bb)) (by omega) (by decide) c4)) (fun c4 => ?_)
  refine lv_iload_n hx hb dJ8_newLength_cabcc_19 rfl (lv_at hl 0 rfl) ?_
  exact g_iret (()) hF rfl rfl hP hD hS dJ8_newLength_cabcc_20 (Nat.le_of_ble_eq_true rfl) (Nat.le_of_ble_eq_true rfl)
