/-! (by wip/p32/sb.py) -/
abbrev rn_J5_newCapacity_0f7a4 : Room := { frames := 2, cells := 0, slots := 0, locals := 120 }
set_option maxHeartbeats 4000000 in
set_option maxRecDepth 100000 in
theorem c_J5_newCapacity_0f7a4 {l : Launch} {D : va_G} {Y : CYs} {h v nn mm qq : Nat} {f : Nat → Int32} (hmq : mm < qq) (hq : qq ≤ 400) (sz : Nat) : Met l yJ5_newCapacity_0f7a4 (Cond.code yJ5_newCapacity_0f7a4 cJ5_newCapacity_0f7a4 6 (some .int) :: gW) rn_J5_newCapacity_0f7a4 (PcE XN ([(h, .inr (1, [.ref v, .int 0, .int 0, .int (nI nn)])), (v, .inl (Y.2.2.1.1, mm, .inl f))]) Y D sz [.ref h, .int (nI qq)]) (GI (S := Unit) (fun r _ => r = nI (capN qq mm)) (fun _ => sbW Y h nn (v, mm, f)) Y D (va_A ([(h, .inr (1, [.ref v, .int 0, .int 0, .int (nI nn)])), (v, .inl (Y.2.2.1.1, mm, .inl f))]) sz)) 0 0 (va_A ([(h, .inr (1, [.ref v, .int 0, .int 0, .int (nI nn)])), (v, .inl (Y.2.2.1.1, mm, .inl f))]) sz) := by
  refine Met_ofE (Qc := GI (S := Unit) (fun r _ => r = nI (capN qq mm)) (fun _ => sbW Y h nn (v, mm, f)) Y D) (by decide) (Nat.le_of_ble_eq_true rfl) (fun p e s m args below meth c A hF hX hin hP hD hS ls hl => ?_) sz
  obtain ⟨hC, hb, hml, hr, hlk, hSW, hA⟩ := id hF
  have hx := hC.1
  have hl : lv_has ls 6 [(0, .ref h), (1, .int (nI qq))] := hl
  refine lv_aload_n hx hb dJ5_newCapacity_0f7a4_0 rfl (lv_at hl 0 rfl) ?_
  refine n_get hC hb hP inGJ4 0 rfl rfl 0 (by decide) rfl (gw_t (tb4 (List.mem_of_getElem? (i := 18) rfl)) rfl) rfl dJ5_newCapacity_0f7a4_1 ?_
  refine va_alen (v := nI mm) hx hb hC.2.2.2.1 hP 1 2 rfl rfl rfl dJ5_newCapacity_0f7a4_4 ?_
  refine lv_istore_n (lv' := [(2, .int (nI mm)), (0, .ref h), (1, .int (nI qq))]) hx hb dJ5_newCapacity_0f7a4_5 rfl hl (by decide) rfl (fun ls hl => ?_)
  refine lv_iload_n hx hb dJ5_newCapacity_0f7a4_6 rfl (lv_at hl 2 rfl) ?_
  refine lv_aload_n hx hb dJ5_newCapacity_0f7a4_7 rfl (lv_at hl 1 rfl) ?_
  refine n_get hC hb hP inGJ4 0 rfl rfl 1 (by decide) rfl (gw_t (tb4 (List.mem_of_getElem? (i := 19) rfl)) rfl) rfl dJ5_newCapacity_0f7a4_8 ?_
  refine lv_ishl hx hb dJ5_newCapacity_0f7a4_11 ?_
  refine lv_topi (fun x1 ex1 => ?_)
  have ex1 : x1 = nI qq := ex1.trans (sb_shl0 _)
  subst ex1
  refine lv_istore_n (lv' := [(3, .int (nI qq)), (2, .int (nI mm)), (0, .ref h), (1, .int (nI qq))]) hx hb dJ5_newCapacity_0f7a4_12 rfl hl (by decide) rfl (fun ls hl => ?_)
  refine lv_iload_n hx hb dJ5_newCapacity_0f7a4_13 rfl (lv_at hl 0 rfl) ?_
  refine lv_iload_n hx hb dJ5_newCapacity_0f7a4_14 rfl (lv_at hl 1 rfl) ?_
  refine lv_isub hx hb dJ5_newCapacity_0f7a4_15 ?_
  refine lv_topi (fun x2 ex2 => ?_)
  have ex2 : x2 = nI (qq - mm) := ex2.trans (pk_sub (by omega))
  subst ex2
  refine lv_istore (lv' := [(4, .int (nI (qq - mm))), (3, .int (nI qq)), (2, .int (nI mm)), (0, .ref h), (1, .int (nI qq))]) hx hb dJ5_newCapacity_0f7a4_16 hl (by decide) rfl (fun ls hl => ?_)
  refine lv_iload_n hx hb dJ5_newCapacity_0f7a4_18 rfl (lv_at hl 2 rfl) ?_
  refine lv_iload hx hb dJ5_newCapacity_0f7a4_19 (lv_at hl 0 rfl) ?_
  refine lv_iload_n hx hb dJ5_newCapacity_0f7a4_21 rfl (lv_at hl 2 rfl) ?_
  refine lv_iconst (v := 2) hx hb dJ5_newCapacity_0f7a4_22 (by decide) ?_
  refine lv_aload_n hx hb dJ5_newCapacity_0f7a4_23 rfl (lv_at hl 3 rfl) ?_
  refine n_get hC hb hP inGJ4 0 rfl rfl 1 (by decide) rfl (gw_t (tb4 (List.mem_of_getElem? (i := 19) rfl)) rfl) rfl dJ5_newCapacity_0f7a4_24 ?_
  refine lv_ishl hx hb dJ5_newCapacity_0f7a4_27 ?_
  refine lv_topi (fun x3 ex3 => ?_)
  have ex3 : x3 = 2 := ex3.trans (sb_shl0 _)
  subst ex3
  refine lv_iadd hx hb dJ5_newCapacity_0f7a4_28 ?_
  refine lv_topi (fun x4 ex4 => ?_)
  have ex4 : x4 = nI (mm + 2) := ex4.trans (nI_add mm 2)
  subst ex4
  refine g_i (Rs := [(h, .inr (1, [.ref v, .int 0, .int 0, .int (nI nn)])), (v, .inl (Y.2.2.1.1, mm, .inl f))]) (C0 := []) (As := [.int (nI mm), .int (nI (qq - mm)), .int (nI (mm + 2))]) hF hP hD hS XN_ok trivial (rS (As := [.int (nI mm), .int (nI (qq - mm)), .int (nI (mm + 2))]) (rest := []) hF hl (c_J8_newLength_cabcc (aa := mm) (bb := qq - mm) (cc0 := mm + 2) (by omega) (by omega) (by omega) (by omega) _) ⟨callB_of 3 hC.2.1 (gi_law (gw_t (tb4 (List.mem_of_getElem? (i := 53) rfl)) rfl)) rfl rfl rfl (hC.2.1 (Cond.initialized RJ8) (gw_t (tb1 (List.mem_of_getElem? (i := 15) rfl)) rfl)) (hC.2.1 (Cond.methodLink RJ5 114 yJ8_newLength_cabcc) (gw_t (tb4 (List.mem_of_getElem? (i := 51) rfl)) rfl)) ⟨by decide +kernel, by decide +kernel, by decide +kernel⟩ ⟨(Nat.le_of_ble_eq_true rfl), (Nat.le_of_ble_eq_true rfl)⟩, hC.2.1 (Cond.static yJ8_newLength_cabcc) (gw_t (tb4 (List.mem_of_getElem? (i := 52) rfl)) rfl)⟩ rfl rfl (Nat.le_of_ble_eq_true rfl) dJ5_newCapacity_0f7a4_29 ⟨(Nat.le_of_ble_eq_true rfl), (Nat.le_of_ble_eq_true rfl)⟩) (fun r u H locs hp hP hD hS => ?_)
  have hp : r = nI (capN qq mm) := hp
  subst hp
  have hk : capN qq mm ≤ 802 := by unfold capN; split <;> omega
  have hP : va_P D vwCl ([(h, .inr (1, [.ref v, .int 0, .int 0, .int (nI nn)])), (v, .inl (Y.2.2.1.1, mm, .inl f))]) H := hP
  have hD : va_D A ([(h, .inr (1, [.ref v, .int 0, .int 0, .int (nI nn)])), (v, .inl (Y.2.2.1.1, mm, .inl f))]) := hD
  refine lv_istore (lv' := [(5, .int (nI (capN qq mm))), (4, .int (nI (qq - mm))), (3, .int (nI qq)), (2, .int (nI mm)), (0, .ref h), (1, .int (nI qq))]) hx hb dJ5_newCapacity_0f7a4_32 hl (by decide) rfl (fun ls hl => ?_)
  refine lv_iload hx hb dJ5_newCapacity_0f7a4_34 (lv_at hl 0 rfl) ?_
  refine lv_ldc (v := 2147483647) hx hb hC.2.2.1 (hC.2.1 (Cond.constant RJ5 39 2147483647) (gw_t (tb4 (List.mem_of_getElem? (i := 61) rfl)) rfl)) dJ5_newCapacity_0f7a4_36 ?_
  refine lv_icmp_ne (tgt := 51) hx hb dJ5_newCapacity_0f7a4_38 (by decide) (fun c5 => ?_) (fun c5 => False.elim (by have := (nI_eq (a := capN qq mm) (b := 2147483647) (by omega) (by decide)).mp c5; omega))
  refine lv_iload hx hb dJ5_newCapacity_0f7a4_51 (lv_at hl 0 rfl) ?_
  refine lv_aload_n hx hb dJ5_newCapacity_0f7a4_53 rfl (lv_at hl 4 rfl) ?_
  refine n_get hC hb hP inGJ4 0 rfl rfl 1 (by decide) rfl (gw_t (tb4 (List.mem_of_getElem? (i := 19) rfl)) rfl) rfl dJ5_newCapacity_0f7a4_54 ?_
  refine lv_ishr hx hb dJ5_newCapacity_0f7a4_57 ?_
  refine lv_topi (fun x6 ex6 => ?_)
  have ex6 : x6 = nI (capN qq mm) := ex6.trans (sb_shr0 _)
  subst ex6
  exact g_iret (()) hF rfl rfl hP hD hS dJ5_newCapacity_0f7a4_58 (Nat.le_of_ble_eq_true rfl) (Nat.le_of_ble_eq_true rfl)

abbrev rn_J5_ensureCapacityInternal_d00df : Room := { frames := 3, cells := 1, slots := 802, locals := 180 }
set_option maxHeartbeats 4000000 in
set_option maxRecDepth 100000 in
theorem c_J5_ensureCapacityInternal_d00df {l : Launch} {D : va_G} {Y : CYs} {h v nn mm qq : Nat} {f : Nat → Int32} (hm : mm ≤ 802) (hq : qq ≤ 400) (hf : FB f) (sz : Nat) : Met l yJ5_ensureCapacityInternal_d00df (Cond.code yJ5_ensureCapacityInternal_d00df cJ5_ensureCapacityInternal_d00df 3 none :: gW) rn_J5_ensureCapacityInternal_d00df (PcE XN ([(h, .inr (1, [.ref v, .int 0, .int 0, .int (nI nn)])), (v, .inl (Y.2.2.1.1, mm, .inl f))]) Y D sz [.ref h, .int (nI qq)]) (GV (S := Nat × Nat × (Nat → Int32)) (fun u => qq ≤ u.2.1 ∧ mm ≤ u.2.1 ∧ u.2.1 ≤ 802 ∧ FB u.2.2 ∧ ∀ j, j < mm → u.2.2 j = f j) (fun u => sbW Y h nn u) Y D (va_A ([(h, .inr (1, [.ref v, .int 0, .int 0, .int (nI nn)])), (v, .inl (Y.2.2.1.1, mm, .inl f))]) sz)) 1 802 (va_A ([(h, .inr (1, [.ref v, .int 0, .int 0, .int (nI nn)])), (v, .inl (Y.2.2.1.1, mm, .inl f))]) sz) := by
  refine Met_ofE (Qc := GV (S := Nat × Nat × (Nat → Int32)) (fun u => qq ≤ u.2.1 ∧ mm ≤ u.2.1 ∧ u.2.1 ≤ 802 ∧ FB u.2.2 ∧ ∀ j, j < mm → u.2.2 j = f j) (fun u => sbW Y h nn u) Y D) (by decide) (Nat.le_of_ble_eq_true rfl) (fun p e s m args below meth c A hF hX hin hP hD hS ls hl => ?_) sz
  obtain ⟨hC, hb, hml, hr, hlk, hSW, hA⟩ := id hF
  have hx := hC.1
  have hl : lv_has ls 3 [(0, .ref h), (1, .int (nI qq))] := hl
  refine lv_aload_n hx hb dJ5_ensureCapacityInternal_d00df_0 rfl (lv_at hl 0 rfl) ?_
  refine n_get hC hb hP inGJ4 0 rfl rfl 0 (by decide) rfl (gw_t (tb4 (List.mem_of_getElem? (i := 18) rfl)) rfl) rfl dJ5_ensureCapacityInternal_d00df_1 ?_
  refine va_alen (v := nI mm) hx hb hC.2.2.2.1 hP 1 2 rfl rfl rfl dJ5_ensureCapacityInternal_d00df_4 ?_
  refine lv_aload_n hx hb dJ5_ensureCapacityInternal_d00df_5 rfl (lv_at hl 0 rfl) ?_
  refine n_get hC hb hP inGJ4 0 rfl rfl 1 (by decide) rfl (gw_t (tb4 (List.mem_of_getElem? (i := 19) rfl)) rfl) rfl dJ5_ensureCapacityInternal_d00df_6 ?_
  refine lv_ishr hx hb dJ5_ensureCapacityInternal_d00df_9 ?_
  refine lv_topi (fun x1 ex1 => ?_)
  have ex1 : x1 = nI mm := ex1.trans (sb_shr0 _)
  subst ex1
  refine lv_istore_n (lv' := [(2, .int (nI mm)), (0, .ref h), (1, .int (nI qq))]) hx hb dJ5_ensureCapacityInternal_d00df_10 rfl hl (by decide) rfl (fun ls hl => ?_)
  refine lv_iload_n hx hb dJ5_ensureCapacityInternal_d00df_11 rfl (lv_at hl 2 rfl) ?_
  refine lv_iload_n hx hb dJ5_ensureCapacityInternal_d00df_12 rfl (lv_at hl 0 rfl) ?_
  refine lv_isub hx hb dJ5_ensureCapacityInternal_d00df_13 ?_
  by_cases q : qq ≤ mm
  · refine lv_if_le (tgt := 38) hx hb dJ5_ensureCapacityInternal_d00df_14 (by decide) (fun c2 => ?_) (fun c2 => False.elim (c2 (by rw [Int32.le_iff_toInt_le, pk_sub_toInt (by omega) (by omega), Int32.toInt_zero]; omega)))
    exact g_vret ((v, mm, f)) hF (⟨q, Nat.le_refl _, hm, hf, fun _ _ => rfl⟩) hP hD hS dJ5_ensureCapacityInternal_d00df_38 (Nat.le_of_ble_eq_true rfl) (Nat.le_of_ble_eq_true rfl)
  · refine lv_if_le (tgt := 38) hx hb dJ5_ensureCapacityInternal_d00df_14 (by decide) (fun c2 => False.elim (by rw [pk_sub (by omega)] at c2; exact nI_nle (by omega) (by omega) c2)) (fun c2 => ?_)
    refine lv_aload_n hx hb dJ5_ensureCapacityInternal_d00df_17 rfl (lv_at hl 1 rfl) ?_
    refine lv_aload_n hx hb dJ5_ensureCapacityInternal_d00df_18 rfl (lv_at hl 1 rfl) ?_
    refine n_get hC hb hP inGJ4 0 rfl rfl 0 (by decide) rfl (gw_t (tb4 (List.mem_of_getElem? (i := 18) rfl)) rfl) rfl dJ5_ensureCapacityInternal_d00df_19 ?_
    refine lv_aload_n hx hb dJ5_ensureCapacityInternal_d00df_22 rfl (lv_at hl 1 rfl) ?_
    refine lv_iload_n hx hb dJ5_ensureCapacityInternal_d00df_23 rfl (lv_at hl 2 rfl) ?_
    refine g_i (Rs := []) (C0 := [(h, .inr (1, [.ref v, .int 0, .int 0, .int (nI nn)])), (v, .inl (Y.2.2.1.1, mm, .inl f))]) (As := [.ref h, .int (nI qq)]) hF hP hD hS XN_ok trivial (rU (As := [.int (nI qq)]) (rest := [.ref v, .ref h]) hF hl (c_J5_newCapacity_0f7a4 (mm := mm) (qq := qq) (by omega) hq _) (cu_of 1 hC (gw_t (tb4 (List.mem_of_getElem? (i := 50) rfl)) rfl) rfl rfl ⟨(Nat.le_of_ble_eq_true rfl), (Nat.le_of_ble_eq_true rfl)⟩ (gw_t (tb4 (List.mem_of_getElem? (i := 47) rfl)) rfl) (gw_t (tb6 (List.mem_of_getElem? (i := 158) rfl)) rfl) (gw_t (tb4 (List.mem_of_getElem? (i := 49) rfl)) rfl) (gw_t (tb1 (List.mem_of_getElem? (i := 11) rfl)) rfl) (hC.2.1 (Cond.selects RJ4 yJ5_newCapacity_0f7a4 yJ5_newCapacity_0f7a4) (gw_p (List.mem_of_getElem? (i := 0) rfl) rfl)) ⟨by decide +kernel, by decide +kernel, by decide +kernel⟩) (va_recv hC.2.2.2.1 hP (q0 := 0) rfl rfl) rfl rfl (Nat.le_of_ble_eq_true rfl) dJ5_ensureCapacityInternal_d00df_24 ⟨(Nat.le_of_ble_eq_true rfl), (Nat.le_of_ble_eq_true rfl)⟩) (fun r u H locs hp hP hD hS => ?_)
    have hp : r = nI (capN qq mm) := hp
    subst hp
    have hk : qq ≤ capN qq mm ∧ mm < capN qq mm ∧ capN qq mm ≤ 802 := by unfold capN; split <;> omega
    have hP : va_P D vwCl ([(h, .inr (1, [.ref v, .int 0, .int 0, .int (nI nn)])), (v, .inl (Y.2.2.1.1, mm, .inl f))]) H := hP
    have hD : va_D A ([(h, .inr (1, [.ref v, .int 0, .int 0, .int (nI nn)])), (v, .inl (Y.2.2.1.1, mm, .inl f))]) := hD
    refine lv_aload_n hx hb dJ5_ensureCapacityInternal_d00df_27 rfl (lv_at hl 1 rfl) ?_
    refine n_get hC hb hP inGJ4 0 rfl rfl 1 (by decide) rfl (gw_t (tb4 (List.mem_of_getElem? (i := 19) rfl)) rfl) rfl dJ5_ensureCapacityInternal_d00df_28 ?_
    refine lv_ishl hx hb dJ5_ensureCapacityInternal_d00df_31 ?_
    refine lv_topi (fun x3 ex3 => ?_)
    have ex3 : x3 = nI (capN qq mm) := ex3.trans (sb_shl0 _)
    subst ex3
    refine g_r (Rs := [(h, .inr (1, [.ref v, .int 0, .int 0, .int (nI nn)]))]) (C0 := [(v, .inl (Y.2.2.1.1, mm, .inl f))]) (As := [.ref v, .int (nI (capN qq mm))]) hF hP hD hS XN_ok trivial (rS (As := [.ref v, .int (nI (capN qq mm))]) (rest := [.ref h]) hF hl (c_J7_copyOf_9075b (mm := mm) (qq := capN qq mm) (by omega) (by omega) hf _) ⟨callB_of 2 hC.2.1 (gi_law (gw_t (tb4 (List.mem_of_getElem? (i := 64) rfl)) rfl)) rfl rfl rfl (hC.2.1 (Cond.initialized RJ7) (gw_t (tb1 (List.mem_of_getElem? (i := 17) rfl)) rfl)) (hC.2.1 (Cond.methodLink RJ5 108 yJ7_copyOf_9075b) (gw_t (tb4 (List.mem_of_getElem? (i := 62) rfl)) rfl)) ⟨by decide +kernel, by decide +kernel, by decide +kernel⟩ ⟨(Nat.le_of_ble_eq_true rfl), (Nat.le_of_ble_eq_true rfl)⟩, hC.2.1 (Cond.static yJ7_copyOf_9075b) (gw_t (tb4 (List.mem_of_getElem? (i := 63) rfl)) rfl)⟩ rfl rfl (Nat.le_of_ble_eq_true rfl) dJ5_ensureCapacityInternal_d00df_32 ⟨(Nat.le_of_ble_eq_true rfl), (Nat.le_of_ble_eq_true rfl)⟩) (fun w u H locs hp hP hD hS => ?_)
    have hP : va_P D vwCl ([(h, .inr (1, [.ref v, .int 0, .int 0, .int (nI nn)])), (v, .inl (Y.2.2.1.1, mm, .inl f)), (w, .inl (Y.2.2.1.1, capN qq mm, .inl (va_cpy f (fun _ => 0) 0 0 mm)))]) H := hP
    have hD : va_D A ([(h, .inr (1, [.ref v, .int 0, .int 0, .int (nI nn)])), (v, .inl (Y.2.2.1.1, mm, .inl f)), (w, .inl (Y.2.2.1.1, capN qq mm, .inl (va_cpy f (fun _ => 0) 0 0 mm)))]) := hD
    refine n_put hC hb hP hD hS inGJ4 tyJ4 tyJ4_ok nmJ4 0 rfl rfl 0 (by decide) (gw_t (tb4 (List.mem_of_getElem? (i := 18) rfl)) rfl) rfl rfl rfl rfl rfl (Nat.le_of_ble_eq_true rfl) dJ5_ensureCapacityInternal_d00df_35 (fun H locs hP hD hS => ?_)
    have hP : va_P D vwCl ([(h, .inr (1, [.ref w, .int 0, .int 0, .int (nI nn)])), (v, .inl (Y.2.2.1.1, mm, .inl f)), (w, .inl (Y.2.2.1.1, capN qq mm, .inl (va_cpy f (fun _ => 0) 0 0 mm)))]) H := hP
    have hD : va_D A ([(h, .inr (1, [.ref w, .int 0, .int 0, .int (nI nn)])), (v, .inl (Y.2.2.1.1, mm, .inl f)), (w, .inl (Y.2.2.1.1, capN qq mm, .inl (va_cpy f (fun _ => 0) 0 0 mm)))]) := hD
    have hP : va_P D vwCl ([(h, .inr (1, [.ref w, .int 0, .int 0, .int (nI nn)])), (w, .inl (Y.2.2.1.1, capN qq mm, .inl (va_cpy f (fun _ => 0) 0 0 mm)))]) H := hP.sub [0, 2] rfl
    have hD : va_D A ([(h, .inr (1, [.ref w, .int 0, .int 0, .int (nI nn)])), (w, .inl (Y.2.2.1.1, capN qq mm, .inl (va_cpy f (fun _ => 0) 0 0 mm)))]) := hD.sub [0, 2] (by decide) rfl
    exact g_vret ((w, capN qq mm, va_cpy f (fun _ => 0) 0 0 mm)) hF (⟨hk.1, Nat.le_of_lt hk.2.1, hk.2.2, FB_cpy hf FB_0, fun j hj => cp0 (f := f) (g := fun _ => 0) hj⟩) hP hD hS dJ5_ensureCapacityInternal_d00df_38 (Nat.le_of_ble_eq_true rfl) (Nat.le_of_ble_eq_true rfl)

abbrev rn_J5_isLatin1_aae02 : Room := { frames := 1, cells := 0, slots := 0, locals := 60 }
set_option maxHeartbeats 4000000 in
set_option maxRecDepth 100000 in
theorem c_J5_isLatin1_aae02 {l : Launch} {D : va_G} {Y : CYs} {h v nn mm : Nat} {f : Nat → Int32} (sz : Nat) : Met l yJ5_isLatin1_aae02 (Cond.code yJ5_isLatin1_aae02 cJ5_isLatin1_aae02 1 (some .boolean) :: gW) rn_J5_isLatin1_aae02 (PcE XN ([(h, .inr (1, [.ref v, .int 0, .int 0, .int (nI nn)])), (v, .inl (Y.2.2.1.1, mm, .inl f))]) Y D sz [.ref h]) (GI (S := Unit) (fun r _ => r = 1) (fun _ => sbW Y h nn (v, mm, f)) Y D (va_A ([(h, .inr (1, [.ref v, .int 0, .int 0, .int (nI nn)])), (v, .inl (Y.2.2.1.1, mm, .inl f))]) sz)) 0 0 (va_A ([(h, .inr (1, [.ref v, .int 0, .int 0, .int (nI nn)])), (v, .inl (Y.2.2.1.1, mm, .inl f))]) sz) := by
  refine Met_ofE (Qc := GI (S := Unit) (fun r _ => r = 1) (fun _ => sbW Y h nn (v, mm, f)) Y D) (by decide) (Nat.le_of_ble_eq_true rfl) (fun p e s m args below meth c A hF hX hin hP hD hS ls hl => ?_) sz
  obtain ⟨hC, hb, hml, hr, hlk, hSW, hA⟩ := id hF
  have hx := hC.1
  have hl : lv_has ls 1 [(0, .ref h)] := hl
  refine va_gets hx hb hSW.2.1 hS hC.2.2.1 (hC.2.1 (Cond.fieldLink RJ5 18 "java/lang/String" "COMPACT_STRINGS" "Z") (gw_t (tb4 (List.mem_of_getElem? (i := 9) rfl)) rfl)) (fun _ h => h) dJ5_isLatin1_aae02_0 ?_
  refine lv_if_eq (tgt := 17) hx hb dJ5_isLatin1_aae02_3 (by decide) (fun c1 => False.elim (absurd c1 (by decide))) (fun c1 => ?_)
  refine lv_aload_n hx hb dJ5_isLatin1_aae02_6 rfl (lv_at hl 0 rfl) ?_
  refine n_get hC hb hP inGJ4 0 rfl rfl 1 (by decide) rfl (gw_t (tb4 (List.mem_of_getElem? (i := 19) rfl)) rfl) rfl dJ5_isLatin1_aae02_7 ?_
  refine lv_if_ne (tgt := 17) hx hb dJ5_isLatin1_aae02_10 (by decide) (fun c2 => False.elim (c2 rfl)) (fun c2 => ?_)
  refine lv_iconst (v := 1) hx hb dJ5_isLatin1_aae02_13 (by decide) ?_
  refine lv_goto (tgt := 18) hx hb dJ5_isLatin1_aae02_14 (by decide) ?_
  exact g_iret (()) hF rfl rfl hP hD hS dJ5_isLatin1_aae02_18 (Nat.le_of_ble_eq_true rfl) (Nat.le_of_ble_eq_true rfl)

abbrev rn_J5_inflateIfNeededFor_a7421 : Room := { frames := 3, cells := 0, slots := 0, locals := 180 }
set_option maxHeartbeats 4000000 in
set_option maxRecDepth 100000 in
theorem c_J5_inflateIfNeededFor_a7421 {l : Launch} {D : va_G} {Y : CYs} {h v nn mm : Nat} {f : Nat → Int32} {N a v0 : Nat} {bs : List Int32} (sz : Nat) : Met l yJ5_inflateIfNeededFor_a7421 (Cond.code yJ5_inflateIfNeededFor_a7421 cJ5_inflateIfNeededFor_a7421 2 none :: gW) rn_J5_inflateIfNeededFor_a7421 (PcE (STA N bs a v0) ([(h, .inr (1, [.ref v, .int 0, .int 0, .int (nI nn)])), (v, .inl (Y.2.2.1.1, mm, .inl f))]) Y D sz [.ref h, .ref a]) (GV (S := Unit) (fun _ => True) (fun _ => sbW Y h nn (v, mm, f)) Y D (va_A ([(h, .inr (1, [.ref v, .int 0, .int 0, .int (nI nn)])), (v, .inl (Y.2.2.1.1, mm, .inl f))]) sz)) 0 0 (va_A ([(h, .inr (1, [.ref v, .int 0, .int 0, .int (nI nn)])), (v, .inl (Y.2.2.1.1, mm, .inl f))]) sz) := by
  refine Met_ofE (Qc := GV (S := Unit) (fun _ => True) (fun _ => sbW Y h nn (v, mm, f)) Y D) (by decide) (Nat.le_of_ble_eq_true rfl) (fun p e s m args below meth c A hF hX hin hP hD hS ls hl => ?_) sz
  obtain ⟨hC, hb, hml, hr, hlk, hSW, hA⟩ := id hF
  have hx := hC.1
  have hl : lv_has ls 2 [(0, .ref h), (1, .ref a)] := hl
  refine va_gets hx hb hSW.2.1 hS hC.2.2.1 (hC.2.1 (Cond.fieldLink RJ5 18 "java/lang/String" "COMPACT_STRINGS" "Z") (gw_t (tb4 (List.mem_of_getElem? (i := 9) rfl)) rfl)) (fun _ h => h) dJ5_inflateIfNeededFor_a7421_0 ?_
  refine lv_if_eq (tgt := 21) hx hb dJ5_inflateIfNeededFor_a7421_3 (by decide) (fun c1 => False.elim (absurd c1 (by decide))) (fun c1 => ?_)
  refine lv_aload_n hx hb dJ5_inflateIfNeededFor_a7421_6 rfl (lv_at hl 0 rfl) ?_
  refine n_get hC hb hP inGJ4 0 rfl rfl 1 (by decide) rfl (gw_t (tb4 (List.mem_of_getElem? (i := 19) rfl)) rfl) rfl dJ5_inflateIfNeededFor_a7421_7 ?_
  refine lv_aload_n hx hb dJ5_inflateIfNeededFor_a7421_10 rfl (lv_at hl 1 rfl) ?_
  refine g_i (Rs := [(h, .inr (1, [.ref v, .int 0, .int 0, .int (nI nn)])), (v, .inl (Y.2.2.1.1, mm, .inl f))]) (C0 := []) (As := [.ref a]) hF hP hD hS STA_ok (X_at (Rs := [(h, .inr (1, [.ref v, .int 0, .int 0, .int (nI nn)])), (v, .inl (Y.2.2.1.1, mm, .inl f))]) (C0 := []) STA_ok hF hX hD hS) (rV (As := []) (rest := [.int 0]) hF hl (cE_coder _) (cwV 0 hC.2.1 (gi_V (gw_t (tb4 (List.mem_of_getElem? (i := 124) rfl)) rfl) (gw_t (tb4 (List.mem_of_getElem? (i := 112) rfl)) rfl) (gw_t (tb4 (List.mem_of_getElem? (i := 113) rfl)) rfl) (gw_t (tb1 (List.mem_of_getElem? (i := 13) rfl)) rfl) (gw_t (tb4 (List.mem_of_getElem? (i := 114) rfl)) rfl)) rfl rfl rfl ⟨rfl, by decide +kernel, by decide +kernel, by decide +kernel⟩ ⟨(Nat.le_of_ble_eq_true rfl), (Nat.le_of_ble_eq_true rfl)⟩) (sta_cell hX hS) rfl rfl (Nat.le_of_ble_eq_true rfl) dJ5_inflateIfNeededFor_a7421_11 ⟨(Nat.le_of_ble_eq_true rfl), (Nat.le_of_ble_eq_true rfl)⟩) (fun r u H locs hp hP hD hS => ?_)
  obtain ⟨hp, -⟩ := hp
  subst hp
  have hP : va_P D vwCl ([(h, .inr (1, [.ref v, .int 0, .int 0, .int (nI nn)])), (v, .inl (Y.2.2.1.1, mm, .inl f))]) H := hP
  have hD : va_D A ([(h, .inr (1, [.ref v, .int 0, .int 0, .int (nI nn)])), (v, .inl (Y.2.2.1.1, mm, .inl f))]) := hD
  refine lv_icmp_eq (tgt := 21) hx hb dJ5_inflateIfNeededFor_a7421_14 (by decide) (fun c2 => ?_) (fun c2 => False.elim (c2 rfl))
  exact g_vret (()) hF trivial hP hD hS dJ5_inflateIfNeededFor_a7421_21 (Nat.le_of_ble_eq_true rfl) (Nat.le_of_ble_eq_true rfl)

abbrev rn_J0_getBytes_840e7 : Room := { frames := 3, cells := 0, slots := 0, locals := 180 }
set_option maxHeartbeats 4000000 in
set_option maxRecDepth 100000 in
theorem c_J0_getBytes_840e7 {l : Launch} {D : va_G} {Y : CYs} {v nn mm : Nat} {f : Nat → Int32} {N a v0 : Nat} {bs : List Int32} (hN : nn + N ≤ mm) (hm : mm ≤ 802) (hbf : ∀ j, j < N → fits .byte (.int (bs.getD j 0)) = true) (sz : Nat) : Met l yJ0_getBytes_840e7 (Cond.code yJ0_getBytes_840e7 cJ0_getBytes_840e7 4 none :: gW) rn_J0_getBytes_840e7 (PcE (STA N bs a v0) ([(v, .inl (Y.2.2.1.1, mm, .inl f))]) Y D sz [.ref a, .ref v, .int (nI nn), .int 0]) (GV (S := Unit) (fun _ => True) (fun _ => [(v, .inl (Y.2.2.1.1, mm, .inl (va_cpy (fun j => bs.getD j 0) f 0 nn N)))]) Y D (va_A ([(v, .inl (Y.2.2.1.1, mm, .inl f))]) sz)) 0 0 (va_A ([(v, .inl (Y.2.2.1.1, mm, .inl f))]) sz) := by
  refine Met_ofE (Qc := GV (S := Unit) (fun _ => True) (fun _ => [(v, .inl (Y.2.2.1.1, mm, .inl (va_cpy (fun j => bs.getD j 0) f 0 nn N)))]) Y D) (by decide) (Nat.le_of_ble_eq_true rfl) (fun p e s m args below meth c A hF hX hin hP hD hS ls hl => ?_) sz
  obtain ⟨hC, hb, hml, hr, hlk, hSW, hA⟩ := id hF
  have hx := hC.1
  have hl : lv_has ls 4 [(0, .ref a), (1, .ref v), (2, .int (nI nn)), (3, .int 0)] := hl
  refine lv_aload_n hx hb dJ0_getBytes_840e7_0 rfl (lv_at hl 0 rfl) ?_
  refine g_i (Rs := [(v, .inl (Y.2.2.1.1, mm, .inl f))]) (C0 := []) (As := [.ref a]) hF hP hD hS STA_ok (X_at (Rs := [(v, .inl (Y.2.2.1.1, mm, .inl f))]) (C0 := []) STA_ok hF hX hD hS) (rV (As := []) (rest := []) hF hl (cE_coder _) (cwV 0 hC.2.1 (gi_V (gw_t (tb4 (List.mem_of_getElem? (i := 111) rfl)) rfl) (gw_t (tb4 (List.mem_of_getElem? (i := 112) rfl)) rfl) (gw_t (tb4 (List.mem_of_getElem? (i := 113) rfl)) rfl) (gw_t (tb1 (List.mem_of_getElem? (i := 13) rfl)) rfl) (gw_t (tb4 (List.mem_of_getElem? (i := 114) rfl)) rfl)) rfl rfl rfl ⟨rfl, by decide +kernel, by decide +kernel, by decide +kernel⟩ ⟨(Nat.le_of_ble_eq_true rfl), (Nat.le_of_ble_eq_true rfl)⟩) (sta_cell hX hS) rfl rfl (Nat.le_of_ble_eq_true rfl) dJ0_getBytes_840e7_1 ⟨(Nat.le_of_ble_eq_true rfl), (Nat.le_of_ble_eq_true rfl)⟩) (fun r u H locs hp hP hD hS => ?_)
  obtain ⟨hp, -⟩ := hp
  subst hp
  have hP : va_P D vwCl ([(v, .inl (Y.2.2.1.1, mm, .inl f))]) H := hP
  have hD : va_D A ([(v, .inl (Y.2.2.1.1, mm, .inl f))]) := hD
  refine lv_iload_n hx hb dJ0_getBytes_840e7_4 rfl (lv_at hl 3 rfl) ?_
  refine lv_icmp_ne (tgt := 28) hx hb dJ0_getBytes_840e7_5 (by decide) (fun c1 => False.elim (c1 rfl)) (fun c1 => ?_)
  refine lv_aload_n hx hb dJ0_getBytes_840e7_8 rfl (lv_at hl 0 rfl) ?_
  refine vk_getf hx hb hX.2.2.1 hS hC.2.2.1 (hC.2.1 (Cond.fieldLink RJ0 9 "java/lang/String" "value" "[B") (gw_t (tb4 (List.mem_of_getElem? (i := 227) rfl)) rfl)) (fun _ h => h) dJ0_getBytes_840e7_9 ?_
  refine lv_iconst (v := 0) hx hb dJ0_getBytes_840e7_12 (by decide) ?_
  refine lv_aload_n hx hb dJ0_getBytes_840e7_13 rfl (lv_at hl 1 rfl) ?_
  refine lv_iload_n hx hb dJ0_getBytes_840e7_14 rfl (lv_at hl 2 rfl) ?_
  refine lv_iload_n hx hb dJ0_getBytes_840e7_15 rfl (lv_at hl 3 rfl) ?_
  refine lv_ishl hx hb dJ0_getBytes_840e7_16 ?_
  refine lv_topi (fun x2 ex2 => ?_)
  have ex2 : x2 = nI nn := ex2.trans (sb_shl0 _)
  subst ex2
  refine lv_aload_n hx hb dJ0_getBytes_840e7_17 rfl (lv_at hl 0 rfl) ?_
  refine vk_getf hx hb hX.2.2.1 hS hC.2.2.1 (hC.2.1 (Cond.fieldLink RJ0 9 "java/lang/String" "value" "[B") (gw_t (tb4 (List.mem_of_getElem? (i := 227) rfl)) rfl)) (fun _ h => h) dJ0_getBytes_840e7_18 ?_
  refine va_tlen hx hb hX.2.2.2 hS (v := nI N) rfl dJ0_getBytes_840e7_21 ?_
  refine vk_copyt (rest := []) hx hb (by rw [hml]; exact hl.1.symm) hC.2.2.1 (hC.2.1 (Cond.methodLink RJ0 212 arraycopyName) (gw_t (tb4 (List.mem_of_getElem? (i := 148) rfl)) rfl)) (hC.2.1 (Cond.native arraycopyName) (gw_t (tb3 (List.mem_of_getElem? (i := 106) rfl)) rfl)) (hC.2.1 (Cond.static arraycopyName) (gw_t (tb3 (List.mem_of_getElem? (i := 105) rfl)) rfl)) (hC.2.1 (Cond.initialized "java/lang/System") (gw_t (tb1 (List.mem_of_getElem? (i := 18) rfl)) rfl)) hC.2.2.2.1 hP hD hS hX.2.2.2 0 2 rfl rfl (by decide) (nI_pos (by omega)) (nI_pos (by omega)) (by rw [nI_clamp (n := N) (by omega)]; show 0 + N ≤ N; omega) (by rw [nI_clamp (n := N) (by omega), nI_clamp (n := nn) (by omega)]; exact hN) (fun i hi => by rw [nI_clamp (n := N) (by omega)] at hi; exact hbf _ (by show 0 + i < N; omega)) (Nat.le_of_ble_eq_true rfl) (Nat.le_of_ble_eq_true rfl) dJ0_getBytes_840e7_22 (fun H locs hP hD hS => ?_)
  rw [show (0 : Int32).toNatClampNeg = 0 from rfl, nI_clamp (n := N) (by omega), nI_clamp (n := nn) (by omega)] at hP hD
  have hP : va_P D vwCl ([(v, .inl (Y.2.2.1.1, mm, .inl (va_cpy (fun j => bs.getD j 0) f 0 nn N)))]) H := hP
  have hD : va_D A ([(v, .inl (Y.2.2.1.1, mm, .inl (va_cpy (fun j => bs.getD j 0) f 0 nn N)))]) := hD
  refine lv_goto (tgt := 43) hx hb dJ0_getBytes_840e7_25 (by decide) ?_
  exact g_vret (()) hF trivial hP hD hS dJ0_getBytes_840e7_43 (Nat.le_of_ble_eq_true rfl) (Nat.le_of_ble_eq_true rfl)

abbrev rn_J5_putStringAt_47b60 : Room := { frames := 4, cells := 0, slots := 0, locals := 240 }
set_option maxHeartbeats 4000000 in
set_option maxRecDepth 100000 in
theorem c_J5_putStringAt_47b60 {l : Launch} {D : va_G} {Y : CYs} {h v nn mm : Nat} {f : Nat → Int32} {N a v0 : Nat} {bs : List Int32} (hN : nn + N ≤ mm) (hm : mm ≤ 802) (hbf : ∀ j, j < N → fits .byte (.int (bs.getD j 0)) = true) (sz : Nat) : Met l yJ5_putStringAt_47b60 (Cond.code yJ5_putStringAt_47b60 cJ5_putStringAt_47b60 3 none :: gW) rn_J5_putStringAt_47b60 (PcE (STA N bs a v0) ([(h, .inr (1, [.ref v, .int 0, .int 0, .int (nI nn)])), (v, .inl (Y.2.2.1.1, mm, .inl f))]) Y D sz [.ref h, .int (nI nn), .ref a]) (GV (S := Unit) (fun _ => True) (fun _ => sbW Y h nn (v, mm, va_cpy (fun j => bs.getD j 0) f 0 nn N)) Y D (va_A ([(h, .inr (1, [.ref v, .int 0, .int 0, .int (nI nn)])), (v, .inl (Y.2.2.1.1, mm, .inl f))]) sz)) 0 0 (va_A ([(h, .inr (1, [.ref v, .int 0, .int 0, .int (nI nn)])), (v, .inl (Y.2.2.1.1, mm, .inl f))]) sz) := by
  refine Met_ofE (Qc := GV (S := Unit) (fun _ => True) (fun _ => sbW Y h nn (v, mm, va_cpy (fun j => bs.getD j 0) f 0 nn N)) Y D) (by decide) (Nat.le_of_ble_eq_true rfl) (fun p e s m args below meth c A hF hX hin hP hD hS ls hl => ?_) sz
  obtain ⟨hC, hb, hml, hr, hlk, hSW, hA⟩ := id hF
  have hx := hC.1
  have hl : lv_has ls 3 [(0, .ref h), (1, .int (nI nn)), (2, .ref a)] := hl
  refine lv_aload_n hx hb dJ5_putStringAt_47b60_0 rfl (lv_at hl 0 rfl) ?_
  refine lv_aload_n hx hb dJ5_putStringAt_47b60_1 rfl (lv_at hl 2 rfl) ?_
  refine g_v (Rs := []) (C0 := [(h, .inr (1, [.ref v, .int 0, .int 0, .int (nI nn)])), (v, .inl (Y.2.2.1.1, mm, .inl f))]) (As := [.ref h, .ref a]) hF hP hD hS STA_ok (X_at (Rs := []) (C0 := [(h, .inr (1, [.ref v, .int 0, .int 0, .int (nI nn)])), (v, .inl (Y.2.2.1.1, mm, .inl f))]) STA_ok hF hX hD hS) (rU (As := [.ref a]) (rest := []) hF hl (c_J5_inflateIfNeededFor_a7421 _) (cu_of 1 hC (gw_t (tb4 (List.mem_of_getElem? (i := 123) rfl)) rfl) rfl rfl ⟨(Nat.le_of_ble_eq_true rfl), (Nat.le_of_ble_eq_true rfl)⟩ (gw_t (tb4 (List.mem_of_getElem? (i := 120) rfl)) rfl) (gw_t (tb6 (List.mem_of_getElem? (i := 160) rfl)) rfl) (gw_t (tb4 (List.mem_of_getElem? (i := 122) rfl)) rfl) (gw_t (tb1 (List.mem_of_getElem? (i := 11) rfl)) rfl) (hC.2.1 (Cond.selects RJ4 yJ5_inflateIfNeededFor_a7421 yJ5_inflateIfNeededFor_a7421) (gw_p (List.mem_of_getElem? (i := 2) rfl) rfl)) ⟨by decide +kernel, by decide +kernel, by decide +kernel⟩) (va_recv hC.2.2.2.1 hP (q0 := 0) rfl rfl) rfl rfl (Nat.le_of_ble_eq_true rfl) dJ5_putStringAt_47b60_2 ⟨(Nat.le_of_ble_eq_true rfl), (Nat.le_of_ble_eq_true rfl)⟩) (fun u H locs hp hP hD hS => ?_)
  have hP : va_P D vwCl ([(h, .inr (1, [.ref v, .int 0, .int 0, .int (nI nn)])), (v, .inl (Y.2.2.1.1, mm, .inl f))]) H := hP
  have hD : va_D A ([(h, .inr (1, [.ref v, .int 0, .int 0, .int (nI nn)])), (v, .inl (Y.2.2.1.1, mm, .inl f))]) := hD
  refine lv_aload_n hx hb dJ5_putStringAt_47b60_5 rfl (lv_at hl 2 rfl) ?_
  refine lv_aload_n hx hb dJ5_putStringAt_47b60_6 rfl (lv_at hl 0 rfl) ?_
  refine n_get hC hb hP inGJ4 0 rfl rfl 0 (by decide) rfl (gw_t (tb4 (List.mem_of_getElem? (i := 18) rfl)) rfl) rfl dJ5_putStringAt_47b60_7 ?_
  refine lv_iload_n hx hb dJ5_putStringAt_47b60_10 rfl (lv_at hl 1 rfl) ?_
  refine lv_aload_n hx hb dJ5_putStringAt_47b60_11 rfl (lv_at hl 0 rfl) ?_
  refine n_get hC hb hP inGJ4 0 rfl rfl 1 (by decide) rfl (gw_t (tb4 (List.mem_of_getElem? (i := 19) rfl)) rfl) rfl dJ5_putStringAt_47b60_12 ?_
  refine g_v (Rs := [(h, .inr (1, [.ref v, .int 0, .int 0, .int (nI nn)]))]) (C0 := [(v, .inl (Y.2.2.1.1, mm, .inl f))]) (As := [.ref a, .ref v, .int (nI nn), .int 0]) hF hP hD hS STA_ok (X_at (Rs := [(h, .inr (1, [.ref v, .int 0, .int 0, .int (nI nn)]))]) (C0 := [(v, .inl (Y.2.2.1.1, mm, .inl f))]) STA_ok hF hX hD hS) (rV (As := [.ref v, .int (nI nn), .int 0]) (rest := []) hF hl (c_J0_getBytes_840e7 hN hm hbf _) (cwV 3 hC.2.1 (gi_V (gw_t (tb4 (List.mem_of_getElem? (i := 144) rfl)) rfl) (gw_t (tb4 (List.mem_of_getElem? (i := 145) rfl)) rfl) (gw_t (tb4 (List.mem_of_getElem? (i := 146) rfl)) rfl) (gw_t (tb1 (List.mem_of_getElem? (i := 13) rfl)) rfl) (gw_t (tb4 (List.mem_of_getElem? (i := 147) rfl)) rfl)) rfl rfl rfl ⟨rfl, by decide +kernel, by decide +kernel, by decide +kernel⟩ ⟨(Nat.le_of_ble_eq_true rfl), (Nat.le_of_ble_eq_true rfl)⟩) (sta_cell hX hS) rfl rfl (Nat.le_of_ble_eq_true rfl) dJ5_putStringAt_47b60_15 ⟨(Nat.le_of_ble_eq_true rfl), (Nat.le_of_ble_eq_true rfl)⟩) (fun u H locs hp hP hD hS => ?_)
  have hP : va_P D vwCl ([(h, .inr (1, [.ref v, .int 0, .int 0, .int (nI nn)])), (v, .inl (Y.2.2.1.1, mm, .inl (va_cpy (fun j => bs.getD j 0) f 0 nn N)))]) H := hP
  have hD : va_D A ([(h, .inr (1, [.ref v, .int 0, .int 0, .int (nI nn)])), (v, .inl (Y.2.2.1.1, mm, .inl (va_cpy (fun j => bs.getD j 0) f 0 nn N)))]) := hD
  exact g_vret (()) hF trivial hP hD hS dJ5_putStringAt_47b60_18 (Nat.le_of_ble_eq_true rfl) (Nat.le_of_ble_eq_true rfl)
