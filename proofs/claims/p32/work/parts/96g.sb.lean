/-! (by wip/p32/sb.py) -/
abbrev rn_J6_stringSize_0f7a4 : Room := { frames := 1, cells := 0, slots := 0, locals := 60 }
set_option maxHeartbeats 4000000 in
set_option maxRecDepth 100000 in
theorem c_J6_stringSize_0f7a4 {l : Launch} {D : va_G} {Y : CYs} {k0 : Nat} (hk : k0 < 100) (sz : Nat) : Met l yJ6_stringSize_0f7a4 (Cond.code yJ6_stringSize_0f7a4 cJ6_stringSize_0f7a4 4 (some .int) :: gW) rn_J6_stringSize_0f7a4 (PcE XN ([]) Y D sz [.int (nI k0)]) (GI (S := Unit) (fun r _ => r = nI (dg k0).length) (fun _ => []) Y D (va_A ([]) sz)) 0 0 (va_A ([]) sz) := by
  refine Met_ofE (Qc := GI (S := Unit) (fun r _ => r = nI (dg k0).length) (fun _ => []) Y D) (by decide) (Nat.le_of_ble_eq_true rfl) (fun p e s m args below meth c A hF hX hin hP hD hS ls hl => ?_) sz
  obtain ⟨hC, hb, hml, hr, hlk, hSW, hA⟩ := id hF
  have hx := hC.1
  have hl : lv_has ls 4 [(0, .int (nI k0))] := hl
  refine lv_iconst (v := 1) hx hb dJ6_stringSize_0f7a4_0 (by decide) ?_
  refine lv_istore_n (lv' := [(1, .int 1), (0, .int (nI k0))]) hx hb dJ6_stringSize_0f7a4_1 rfl hl (by decide) rfl (fun ls hl => ?_)
  refine lv_iload_n hx hb dJ6_stringSize_0f7a4_2 rfl (lv_at hl 1 rfl) ?_
  refine lv_if_lt (tgt := 11) hx hb dJ6_stringSize_0f7a4_3 (by decide) (fun c1 => False.elim (nI_pos (by omega) c1)) (fun c1 => ?_)
  refine lv_iconst (v := 0) hx hb dJ6_stringSize_0f7a4_6 (by decide) ?_
  refine lv_istore_n (lv' := [(1, .int 0), (0, .int (nI k0))]) hx hb dJ6_stringSize_0f7a4_7 rfl hl (by decide) rfl (fun ls hl => ?_)
  refine lv_iload_n hx hb dJ6_stringSize_0f7a4_8 rfl (lv_at hl 1 rfl) ?_
  refine lv_ineg hx hb dJ6_stringSize_0f7a4_9 ?_
  refine lv_istore_n (lv' := [(0, .int (-(nI k0))), (1, .int 0)]) hx hb dJ6_stringSize_0f7a4_10 rfl hl (by decide) rfl (fun ls hl => ?_)
  refine lv_bipush (v := -10) hx hb dJ6_stringSize_0f7a4_11 (by decide) ?_
  refine lv_istore_n (lv' := [(2, .int (-10)), (0, .int (-(nI k0))), (1, .int 0)]) hx hb dJ6_stringSize_0f7a4_13 rfl hl (by decide) rfl (fun ls hl => ?_)
  refine lv_iconst (v := 1) hx hb dJ6_stringSize_0f7a4_14 (by decide) ?_
  refine lv_istore_n (lv' := [(3, .int 1), (2, .int (-10)), (0, .int (-(nI k0))), (1, .int 0)]) hx hb dJ6_stringSize_0f7a4_15 rfl hl (by decide) rfl (fun ls hl => ?_)
  refine lv_iload_n hx hb dJ6_stringSize_0f7a4_16 rfl (lv_at hl 0 rfl) ?_
  refine lv_bipush (v := 10) hx hb dJ6_stringSize_0f7a4_17 (by decide) ?_
  refine lv_icmp_ge (tgt := 42) hx hb dJ6_stringSize_0f7a4_19 (by decide) (fun c2 => False.elim (absurd c2 (by decide))) (fun c2 => ?_)
  refine lv_iload_n hx hb dJ6_stringSize_0f7a4_22 rfl (lv_at hl 2 rfl) ?_
  refine lv_iload_n hx hb dJ6_stringSize_0f7a4_23 rfl (lv_at hl 1 rfl) ?_
  refine lv_icmp_le (tgt := 31) hx hb dJ6_stringSize_0f7a4_24 (by decide) (fun c3 => ?_) (fun c3 => ?_)
  · refine lv_bipush (v := 10) hx hb dJ6_stringSize_0f7a4_31 (by decide) ?_
    refine lv_iload_n hx hb dJ6_stringSize_0f7a4_33 rfl (lv_at hl 1 rfl) ?_
    refine lv_imul hx hb dJ6_stringSize_0f7a4_34 ?_
    refine lv_istore_n (lv' := [(2, .int (10 * (-10))), (3, .int 1), (0, .int (-(nI k0))), (1, .int 0)]) hx hb dJ6_stringSize_0f7a4_35 rfl hl (by decide) rfl (fun ls hl => ?_)
    refine lv_iinc (v := 1 + 1) (lv' := [(3, .int (1 + 1)), (2, .int (10 * (-10))), (0, .int (-(nI k0))), (1, .int 0)]) hx hb dJ6_stringSize_0f7a4_36 hl (k := 1) rfl rfl (by decide) rfl (fun ls hl => ?_)
    refine lv_goto (tgt := 16) hx hb dJ6_stringSize_0f7a4_39 (by decide) ?_
    refine lv_iload_n hx hb dJ6_stringSize_0f7a4_16 rfl (lv_at hl 0 rfl) ?_
    refine lv_bipush (v := 10) hx hb dJ6_stringSize_0f7a4_17 (by decide) ?_
    refine lv_icmp_ge (tgt := 42) hx hb dJ6_stringSize_0f7a4_19 (by decide) (fun c4 => False.elim (absurd c4 (by decide))) (fun c4 => ?_)
    refine lv_iload_n hx hb dJ6_stringSize_0f7a4_22 rfl (lv_at hl 2 rfl) ?_
    refine lv_iload_n hx hb dJ6_stringSize_0f7a4_23 rfl (lv_at hl 1 rfl) ?_
    refine lv_icmp_le (tgt := 31) hx hb dJ6_stringSize_0f7a4_24 (by decide) (fun c5 => False.elim (ng100 _ hk c5)) (fun c5 => ?_)
    refine lv_iload_n hx hb dJ6_stringSize_0f7a4_27 rfl (lv_at hl 0 rfl) ?_
    refine lv_iload_n hx hb dJ6_stringSize_0f7a4_28 rfl (lv_at hl 3 rfl) ?_
    refine lv_iadd hx hb dJ6_stringSize_0f7a4_29 ?_
    exact g_iret (()) hF rfl (by rw [dg_2 (by have := (ng10 _ hk).mp c3; omega)]; rfl) hP hD hS dJ6_stringSize_0f7a4_30 (Nat.le_of_ble_eq_true rfl) (Nat.le_of_ble_eq_true rfl)
  · refine lv_iload_n hx hb dJ6_stringSize_0f7a4_27 rfl (lv_at hl 0 rfl) ?_
    refine lv_iload_n hx hb dJ6_stringSize_0f7a4_28 rfl (lv_at hl 3 rfl) ?_
    refine lv_iadd hx hb dJ6_stringSize_0f7a4_29 ?_
    exact g_iret (()) hF rfl (by rw [dg_1 (Nat.lt_of_not_le (fun h => c3 ((ng10 _ hk).mpr h)))]; rfl) hP hD hS dJ6_stringSize_0f7a4_30 (Nat.le_of_ble_eq_true rfl) (Nat.le_of_ble_eq_true rfl)

abbrev rn_J6_getChars_ba4f3 : Room := { frames := 1, cells := 0, slots := 0, locals := 60 }
set_option maxHeartbeats 4000000 in
set_option maxRecDepth 100000 in
theorem c_J6_getChars_ba4f3 {l : Launch} {D : va_G} {Y : CYs} {v mm n0 k0 e0 : Nat} {f : Nat → Int32} (hk : k0 < 100) (he : e0 = n0 + (dg k0).length) (hn : e0 ≤ mm) (hm : mm ≤ 802) (hf : FB f) (sz : Nat) : Met l yJ6_getChars_ba4f3 (Cond.code yJ6_getChars_ba4f3 cJ6_getChars_ba4f3 7 (some .int) :: gW) rn_J6_getChars_ba4f3 (PcE XN ([(v, .inl (Y.2.2.1.1, mm, .inl f))]) Y D sz [.int (nI k0), .int (nI e0), .ref v]) (GI (S := Nat → Int32) (fun _ u => FB u ∧ (∀ j, j < n0 → u j = f j) ∧ ∀ j, j < (dg k0).length → u (n0 + j) = nI ((dg k0).getD j 0)) (fun u => [(v, .inl (Y.2.2.1.1, mm, .inl u))]) Y D (va_A ([(v, .inl (Y.2.2.1.1, mm, .inl f))]) sz)) 0 0 (va_A ([(v, .inl (Y.2.2.1.1, mm, .inl f))]) sz) := by
  refine Met_ofE (Qc := GI (S := Nat → Int32) (fun _ u => FB u ∧ (∀ j, j < n0 → u j = f j) ∧ ∀ j, j < (dg k0).length → u (n0 + j) = nI ((dg k0).getD j 0)) (fun u => [(v, .inl (Y.2.2.1.1, mm, .inl u))]) Y D) (by decide) (Nat.le_of_ble_eq_true rfl) (fun p e s m args below meth c A hF hX hin hP hD hS ls hl => ?_) sz
  obtain ⟨hC, hb, hml, hr, hlk, hSW, hA⟩ := id hF
  have hx := hC.1
  have hl : lv_has ls 7 [(0, .int (nI k0)), (1, .int (nI e0)), (2, .ref v)] := hl
  have he0 : 0 < e0 := by
      rw [he]
      unfold dg
      split <;> exact Nat.succ_pos _
  obtain ⟨t1, t2, hZ1, hT1, hZ2, hT2⟩ := hSW.2.2.2
  refine lv_iload_n hx hb dJ6_getChars_ba4f3_0 rfl (lv_at hl 1 rfl) ?_
  refine lv_istore (lv' := [(5, .int (nI e0)), (0, .int (nI k0)), (1, .int (nI e0)), (2, .ref v)]) hx hb dJ6_getChars_ba4f3_1 hl (by decide) rfl (fun ls hl => ?_)
  refine lv_iload_n hx hb dJ6_getChars_ba4f3_3 rfl (lv_at hl 1 rfl) ?_
  refine lv_if_ge (tgt := 11) hx hb dJ6_getChars_ba4f3_4 (by decide) (fun c1 => ?_) (fun c1 => False.elim (c1 (nI_pos' (by omega))))
  refine lv_iconst (v := 0) hx hb dJ6_getChars_ba4f3_11 (by decide) ?_
  refine lv_istore (lv' := [(6, .int 0), (5, .int (nI e0)), (0, .int (nI k0)), (1, .int (nI e0)), (2, .ref v)]) hx hb dJ6_getChars_ba4f3_12 hl (by decide) rfl (fun ls hl => ?_)
  refine lv_iload hx hb dJ6_getChars_ba4f3_14 (lv_at hl 0 rfl) ?_
  refine lv_if_ne (tgt := 22) hx hb dJ6_getChars_ba4f3_16 (by decide) (fun c2 => False.elim (c2 rfl)) (fun c2 => ?_)
  refine lv_iload_n hx hb dJ6_getChars_ba4f3_19 rfl (lv_at hl 2 rfl) ?_
  refine lv_ineg hx hb dJ6_getChars_ba4f3_20 ?_
  refine lv_istore_n (lv' := [(0, .int (-(nI k0))), (6, .int 0), (5, .int (nI e0)), (1, .int (nI e0)), (2, .ref v)]) hx hb dJ6_getChars_ba4f3_21 rfl hl (by decide) rfl (fun ls hl => ?_)
  refine lv_iload_n hx hb dJ6_getChars_ba4f3_22 rfl (lv_at hl 0 rfl) ?_
  refine lv_bipush (v := -100) hx hb dJ6_getChars_ba4f3_23 (by decide) ?_
  refine lv_icmp_gt (tgt := 72) hx hb dJ6_getChars_ba4f3_25 (by decide) (fun c3 => ?_) (fun c3 => False.elim (c3 (ngm100 _ hk)))
  refine lv_aload_n hx hb dJ6_getChars_ba4f3_72 rfl (lv_at hl 4 rfl) ?_
  refine lv_iinc (v := nI (e0 - 1)) (lv' := [(5, .int (nI (e0 - 1))), (0, .int (-(nI k0))), (6, .int 0), (1, .int (nI e0)), (2, .ref v)]) hx hb dJ6_getChars_ba4f3_73 hl (k := 2) rfl (by rw [← pk_m1' he0]; rfl) (by decide) rfl (fun ls hl => ?_)
  refine lv_iload hx hb dJ6_getChars_ba4f3_76 (lv_at hl 0 rfl) ?_
  refine va_gets hx hb hZ1 hS hC.2.2.1 (hC.2.1 (Cond.fieldLink RJ6 83 "java/lang/Integer" "DigitOnes" "[B") (gw_t (tb4 (List.mem_of_getElem? (i := 163) rfl)) rfl)) (fun _ h => h) dJ6_getChars_ba4f3_78 ?_
  refine lv_iload_n hx hb dJ6_getChars_ba4f3_81 rfl (lv_at hl 1 rfl) ?_
  refine lv_ineg hx hb dJ6_getChars_ba4f3_82 ?_
  refine lv_topi (fun x4 ex4 => ?_)
  have ex4 : x4 = nI k0 := ex4.trans (Int32.neg_neg)
  subst ex4
  refine va_tb hx hb hT1 hS (vp_in_nI (n := k0) (by omega) (by decide)) (v := .int (nI (48 + k0 % 10))) (by rw [nI_clamp (by omega)]; rfl) dJ6_getChars_ba4f3_83 ?_
  refine va_bast hx hb hC.2.2.2.1 hP hD hS 0 2 rfl rfl (vp_in_nI (n := e0 - 1) (by omega) (by omega)) dJ6_getChars_ba4f3_84 (fun H locs hP hD hS => ?_)
  rw [nI_clamp (n := e0 - 1) (by omega), nar_b _ (by omega)] at hP hD
  have hP : va_P D vwCl ([(v, .inl (Y.2.2.1.1, mm, .inl (upd f (e0 - 1) (nI (48 + k0 % 10)))))]) H := hP
  have hD : va_D A ([(v, .inl (Y.2.2.1.1, mm, .inl (upd f (e0 - 1) (nI (48 + k0 % 10)))))]) := hD
  refine lv_iload_n hx hb dJ6_getChars_ba4f3_85 rfl (lv_at hl 1 rfl) ?_
  refine lv_bipush (v := -9) hx hb dJ6_getChars_ba4f3_86 (by decide) ?_
  refine lv_icmp_ge (tgt := 104) hx hb dJ6_getChars_ba4f3_88 (by decide) (fun c5 => ?_) (fun c5 => ?_)
  · refine lv_iload hx hb dJ6_getChars_ba4f3_104 (lv_at hl 2 rfl) ?_
    refine lv_if_eq (tgt := 118) hx hb dJ6_getChars_ba4f3_106 (by decide) (fun c6 => ?_) (fun c6 => False.elim (c6 rfl))
    refine lv_iload hx hb dJ6_getChars_ba4f3_118 (lv_at hl 0 rfl) ?_
    have q : k0 < 10 := (ng9 _ hk).mp c5
    have e1 : e0 - 1 = n0 := by rw [he, dg_1 q]; rfl
    rw [e1] at hP hD
    exact g_iret ((upd f n0 (nI (48 + k0 % 10)))) hF rfl (gc_1 hk q hf) hP hD hS dJ6_getChars_ba4f3_120 (Nat.le_of_ble_eq_true rfl) (Nat.le_of_ble_eq_true rfl)
  · have q : ¬ k0 < 10 := fun h => c5 ((ng9 _ hk).mpr h)
    have e2 : e0 = n0 + 2 := by rw [he, dg_2 q]; rfl
    refine lv_aload_n hx hb dJ6_getChars_ba4f3_91 rfl (lv_at hl 4 rfl) ?_
    refine lv_iinc (v := nI (e0 - 2)) (lv' := [(5, .int (nI (e0 - 2))), (0, .int (-(nI k0))), (6, .int 0), (1, .int (nI e0)), (2, .ref v)]) hx hb dJ6_getChars_ba4f3_92 hl (k := 0) rfl (by rw [show e0 - 2 = e0 - 1 - 1 by omega, ← pk_m1' (show 0 < e0 - 1 by omega)]; rfl) (by decide) rfl (fun ls hl => ?_)
    refine lv_iload hx hb dJ6_getChars_ba4f3_95 (lv_at hl 0 rfl) ?_
    refine va_gets hx hb hZ2 hS hC.2.2.1 (hC.2.1 (Cond.fieldLink RJ6 87 "java/lang/Integer" "DigitTens" "[B") (gw_t (tb4 (List.mem_of_getElem? (i := 165) rfl)) rfl)) (fun _ h => h) dJ6_getChars_ba4f3_97 ?_
    refine lv_iload_n hx hb dJ6_getChars_ba4f3_100 rfl (lv_at hl 1 rfl) ?_
    refine lv_ineg hx hb dJ6_getChars_ba4f3_101 ?_
    refine lv_topi (fun x6 ex6 => ?_)
    have ex6 : x6 = nI k0 := ex6.trans (Int32.neg_neg)
    subst ex6
    refine va_tb hx hb hT2 hS (vp_in_nI (n := k0) (by omega) (by decide)) (v := .int (nI (48 + k0 / 10))) (by rw [nI_clamp (by omega)]; rfl) dJ6_getChars_ba4f3_102 ?_
    refine va_bast hx hb hC.2.2.2.1 hP hD hS 0 2 rfl rfl (vp_in_nI (n := e0 - 2) (by omega) (by omega)) dJ6_getChars_ba4f3_103 (fun H locs hP hD hS => ?_)
    rw [nI_clamp (n := e0 - 2) (by omega), nar_b _ (by omega)] at hP hD
    have hP : va_P D vwCl ([(v, .inl (Y.2.2.1.1, mm, .inl (upd (upd f (e0 - 1) (nI (48 + k0 % 10))) (e0 - 2) (nI (48 + k0 / 10)))))]) H := hP
    have hD : va_D A ([(v, .inl (Y.2.2.1.1, mm, .inl (upd (upd f (e0 - 1) (nI (48 + k0 % 10))) (e0 - 2) (nI (48 + k0 / 10)))))]) := hD
    refine lv_iload hx hb dJ6_getChars_ba4f3_104 (lv_at hl 2 rfl) ?_
    refine lv_if_eq (tgt := 118) hx hb dJ6_getChars_ba4f3_106 (by decide) (fun c7 => ?_) (fun c7 => False.elim (c7 rfl))
    refine lv_iload hx hb dJ6_getChars_ba4f3_118 (lv_at hl 0 rfl) ?_
    have e1 : e0 - 1 = n0 + 1 := by omega
    have e3 : e0 - 2 = n0 := by omega
    rw [e1, e3] at hP hD
    exact g_iret ((upd (upd f (n0 + 1) (nI (48 + k0 % 10))) n0 (nI (48 + k0 / 10)))) hF rfl (gc_2 hk q hf) hP hD hS dJ6_getChars_ba4f3_120 (Nat.le_of_ble_eq_true rfl) (Nat.le_of_ble_eq_true rfl)
