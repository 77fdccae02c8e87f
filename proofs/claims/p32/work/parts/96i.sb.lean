/-! (by wip/p32/sb.py) -/
abbrev rn_J5_getValue_6d5f1 : Room := { frames := 1, cells := 0, slots := 0, locals := 60 }
set_option maxHeartbeats 4000000 in
set_option maxRecDepth 100000 in
theorem c_J5_getValue_6d5f1 {l : Launch} {D : va_G} {Y : CYs} {h v mm nn : Nat} {f : Nat → Int32} (sz : Nat) : Met l yJ5_getValue_6d5f1 (Cond.code yJ5_getValue_6d5f1 cJ5_getValue_6d5f1 1 (some (.array .byte)) :: gW) rn_J5_getValue_6d5f1 (PcE XN ([(h, .inr (1, [.ref v, .int 0, .int 0, .int (nI nn)])), (v, .inl (Y.2.2.1.1, mm, .inl f))]) Y D sz [.ref h]) (GR (S := Unit) (fun _ r => r = v) (fun _ _ => sbW Y h nn (v, mm, f)) Y D (va_A ([(h, .inr (1, [.ref v, .int 0, .int 0, .int (nI nn)])), (v, .inl (Y.2.2.1.1, mm, .inl f))]) sz)) 0 0 (va_A ([(h, .inr (1, [.ref v, .int 0, .int 0, .int (nI nn)])), (v, .inl (Y.2.2.1.1, mm, .inl f))]) sz) := by
  refine Met_ofE (Qc := GR (S := Unit) (fun _ r => r = v) (fun _ _ => sbW Y h nn (v, mm, f)) Y D) (by decide) (Nat.le_of_ble_eq_true rfl) (fun p e s m args below meth c A hF hX hin hP hD hS ls hl => ?_) sz
  obtain ⟨hC, hb, hml, hr, hlk, hSW, hA⟩ := id hF
  have hx := hC.1
  have hl : lv_has ls 1 [(0, .ref h)] := hl
  refine lv_aload_n hx hb dJ5_getValue_6d5f1_0 rfl (lv_at hl 0 rfl) ?_
  refine n_get hC hb hP inGJ4 0 rfl rfl 0 (by decide) rfl (gw_t (tb4 (List.mem_of_getElem? (i := 18) rfl)) rfl) rfl dJ5_getValue_6d5f1_1 ?_
  exact g_aret (()) v hF (Or.inr ⟨_, rfl⟩) rfl hP hD hS dJ5_getValue_6d5f1_4 (Nat.le_of_ble_eq_true rfl) (Nat.le_of_ble_eq_true rfl)

abbrev rn_J5_length_8abf5 : Room := { frames := 1, cells := 0, slots := 0, locals := 60 }
set_option maxHeartbeats 4000000 in
set_option maxRecDepth 100000 in
theorem c_J5_length_8abf5 {l : Launch} {D : va_G} {Y : CYs} {h v mm nn : Nat} {f : Nat → Int32} (sz : Nat) : Met l yJ5_length_8abf5 (Cond.code yJ5_length_8abf5 cJ5_length_8abf5 1 (some .int) :: gW) rn_J5_length_8abf5 (PcE XN ([(h, .inr (1, [.ref v, .int 0, .int 0, .int (nI nn)])), (v, .inl (Y.2.2.1.1, mm, .inl f))]) Y D sz [.ref h]) (GI (S := Unit) (fun r _ => r = nI nn) (fun _ => sbW Y h nn (v, mm, f)) Y D (va_A ([(h, .inr (1, [.ref v, .int 0, .int 0, .int (nI nn)])), (v, .inl (Y.2.2.1.1, mm, .inl f))]) sz)) 0 0 (va_A ([(h, .inr (1, [.ref v, .int 0, .int 0, .int (nI nn)])), (v, .inl (Y.2.2.1.1, mm, .inl f))]) sz) := by
  refine Met_ofE (Qc := GI (S := Unit) (fun r _ => r = nI nn) (fun _ => sbW Y h nn (v, mm, f)) Y D) (by decide) (Nat.le_of_ble_eq_true rfl) (fun p e s m args below meth c A hF hX hin hP hD hS ls hl => ?_) sz
  obtain ⟨hC, hb, hml, hr, hlk, hSW, hA⟩ := id hF
  have hx := hC.1
  have hl : lv_has ls 1 [(0, .ref h)] := hl
  refine lv_aload_n hx hb dJ5_length_8abf5_0 rfl (lv_at hl 0 rfl) ?_
  refine n_get hC hb hP inGJ4 0 rfl rfl 3 (by decide) rfl (gw_t (tb4 (List.mem_of_getElem? (i := 21) rfl)) rfl) rfl dJ5_length_8abf5_1 ?_
  exact g_iret (()) hF rfl rfl hP hD hS dJ5_length_8abf5_4 (Nat.le_of_ble_eq_true rfl) (Nat.le_of_ble_eq_true rfl)

abbrev rn_J4_length_8abf5 : Room := { frames := 2, cells := 0, slots := 0, locals := 120 }
set_option maxHeartbeats 4000000 in
set_option maxRecDepth 100000 in
theorem c_J4_length_8abf5 {l : Launch} {D : va_G} {Y : CYs} {h v mm nn : Nat} {f : Nat → Int32} (sz : Nat) : Met l yJ4_length_8abf5 (Cond.code yJ4_length_8abf5 cJ4_length_8abf5 1 (some .int) :: gW) rn_J4_length_8abf5 (PcE XN ([(h, .inr (1, [.ref v, .int 0, .int 0, .int (nI nn)])), (v, .inl (Y.2.2.1.1, mm, .inl f))]) Y D sz [.ref h]) (GI (S := Unit) (fun r _ => r = nI nn) (fun _ => sbW Y h nn (v, mm, f)) Y D (va_A ([(h, .inr (1, [.ref v, .int 0, .int 0, .int (nI nn)])), (v, .inl (Y.2.2.1.1, mm, .inl f))]) sz)) 0 0 (va_A ([(h, .inr (1, [.ref v, .int 0, .int 0, .int (nI nn)])), (v, .inl (Y.2.2.1.1, mm, .inl f))]) sz) := by
  refine Met_ofE (Qc := GI (S := Unit) (fun r _ => r = nI nn) (fun _ => sbW Y h nn (v, mm, f)) Y D) (by decide) (Nat.le_of_ble_eq_true rfl) (fun p e s m args below meth c A hF hX hin hP hD hS ls hl => ?_) sz
  obtain ⟨hC, hb, hml, hr, hlk, hSW, hA⟩ := id hF
  have hx := hC.1
  have hl : lv_has ls 1 [(0, .ref h)] := hl
  refine lv_aload_n hx hb dJ4_length_8abf5_0 rfl (lv_at hl 0 rfl) ?_
  refine g_i (Rs := []) (C0 := [(h, .inr (1, [.ref v, .int 0, .int 0, .int (nI nn)])), (v, .inl (Y.2.2.1.1, mm, .inl f))]) (As := [.ref h]) hF hP hD hS XN_ok trivial (rSU (hC.2.2.2.1.1 1 _ rfl).2 (As := []) (rest := []) hF hl (c_J5_length_8abf5 _) (va_cwSU 0 hC.2.1 (gi_SU (gw_t (tb4 (List.mem_of_getElem? (i := 202) rfl)) rfl) (gw_t (tb4 (List.mem_of_getElem? (i := 198) rfl)) rfl) (gw_t (tb4 (List.mem_of_getElem? (i := 30) rfl)) rfl) (gw_t (tb4 (List.mem_of_getElem? (i := 197) rfl)) rfl) (gw_t (tb1 (List.mem_of_getElem? (i := 11) rfl)) rfl) (gw_t (tb4 (List.mem_of_getElem? (i := 203) rfl)) rfl)) rfl rfl rfl ⟨by decide +kernel, by decide +kernel⟩ ⟨(Nat.le_of_ble_eq_true rfl), (Nat.le_of_ble_eq_true rfl)⟩) (va_recv hC.2.2.2.1 hP (q0 := 0) rfl rfl) rfl rfl (Nat.le_of_ble_eq_true rfl) dJ4_length_8abf5_1 ⟨(Nat.le_of_ble_eq_true rfl), (Nat.le_of_ble_eq_true rfl)⟩) (fun r u H locs hp hP hD hS => ?_)
  have hP : va_P D vwCl ([(h, .inr (1, [.ref v, .int 0, .int 0, .int (nI nn)])), (v, .inl (Y.2.2.1.1, mm, .inl f))]) H := hP
  have hD : va_D A ([(h, .inr (1, [.ref v, .int 0, .int 0, .int (nI nn)])), (v, .inl (Y.2.2.1.1, mm, .inl f))]) := hD
  exact g_iret (()) hF rfl hp hP hD hS dJ4_length_8abf5_4 (Nat.le_of_ble_eq_true rfl) (Nat.le_of_ble_eq_true rfl)

abbrev rn_J7_checkLength_df160 : Room := { frames := 1, cells := 0, slots := 0, locals := 60 }
set_option maxHeartbeats 4000000 in
set_option maxRecDepth 100000 in
theorem c_J7_checkLength_df160 {l : Launch} {D : va_G} {Y : CYs} {nn : Nat} (hn : nn ≤ 802) (sz : Nat) : Met l yJ7_checkLength_df160 (Cond.code yJ7_checkLength_df160 cJ7_checkLength_df160 2 none :: gW) rn_J7_checkLength_df160 (PcE XN ([]) Y D sz [.int 0, .int (nI nn)]) (GV (S := Unit) (fun _ => True) (fun _ => []) Y D (va_A ([]) sz)) 0 0 (va_A ([]) sz) := by
  refine Met_ofE (Qc := GV (S := Unit) (fun _ => True) (fun _ => []) Y D) (by decide) (Nat.le_of_ble_eq_true rfl) (fun p e s m args below meth c A hF hX hin hP hD hS ls hl => ?_) sz
  obtain ⟨hC, hb, hml, hr, hlk, hSW, hA⟩ := id hF
  have hx := hC.1
  have hl : lv_has ls 2 [(0, .int 0), (1, .int (nI nn))] := hl
  refine lv_iload_n hx hb dJ7_checkLength_df160_0 rfl (lv_at hl 1 rfl) ?_
  refine lv_iload_n hx hb dJ7_checkLength_df160_1 rfl (lv_at hl 0 rfl) ?_
  refine lv_icmp_ge (tgt := 37) hx hb dJ7_checkLength_df160_2 (by decide) (fun c1 => ?_) (fun c1 => False.elim (c1 (nI_pos' (by omega))))
  exact g_vret (()) hF trivial hP hD hS dJ7_checkLength_df160_37 (Nat.le_of_ble_eq_true rfl) (Nat.le_of_ble_eq_true rfl)

abbrev rn_J7_copyOfRangeByte_39247 : Room := { frames := 2, cells := 1, slots := 802, locals := 120 }
set_option maxHeartbeats 4000000 in
set_option maxRecDepth 100000 in
theorem c_J7_copyOfRangeByte_39247 {l : Launch} {D : va_G} {Y : CYs} {v mm nn : Nat} {f : Nat → Int32} (hn : nn ≤ mm) (hm : mm ≤ 802) (hf : FB f) (sz : Nat) : Met l yJ7_copyOfRangeByte_39247 (Cond.code yJ7_copyOfRangeByte_39247 cJ7_copyOfRangeByte_39247 5 (some (.array .byte)) :: gW) rn_J7_copyOfRangeByte_39247 (PcE XN ([(v, .inl (Y.2.2.1.1, mm, .inl f))]) Y D sz [.ref v, .int 0, .int (nI nn)]) (GR (S := Nat → Int32) (fun u _ => FB u ∧ ∀ j, j < nn → u j = f j) (fun u r => [(v, .inl (Y.2.2.1.1, mm, .inl f)), (r, .inl (Y.2.2.1.1, nn, .inl u))]) Y D (va_A ([(v, .inl (Y.2.2.1.1, mm, .inl f))]) sz)) 1 802 (va_A ([(v, .inl (Y.2.2.1.1, mm, .inl f))]) sz) := by
  refine Met_ofE (Qc := GR (S := Nat → Int32) (fun u _ => FB u ∧ ∀ j, j < nn → u j = f j) (fun u r => [(v, .inl (Y.2.2.1.1, mm, .inl f)), (r, .inl (Y.2.2.1.1, nn, .inl u))]) Y D) (by decide) (Nat.le_of_ble_eq_true rfl) (fun p e s m args below meth c A hF hX hin hP hD hS ls hl => ?_) sz
  obtain ⟨hC, hb, hml, hr, hlk, hSW, hA⟩ := id hF
  have hx := hC.1
  have hl : lv_has ls 5 [(0, .ref v), (1, .int 0), (2, .int (nI nn))] := hl
  refine lv_iload_n hx hb dJ7_copyOfRangeByte_39247_0 rfl (lv_at hl 1 rfl) ?_
  refine lv_iload_n hx hb dJ7_copyOfRangeByte_39247_1 rfl (lv_at hl 2 rfl) ?_
  refine g_v (Rs := [(v, .inl (Y.2.2.1.1, mm, .inl f))]) (C0 := []) (As := [.int 0, .int (nI nn)]) hF hP hD hS XN_ok trivial (rS (As := [.int 0, .int (nI nn)]) (rest := []) hF hl (c_J7_checkLength_df160 (nn := nn) (by omega) _) ⟨callB_of 2 hC.2.1 (gi_law (gw_t (tb4 (List.mem_of_getElem? (i := 213) rfl)) rfl)) rfl rfl rfl (hC.2.1 (Cond.initialized RJ7) (gw_t (tb1 (List.mem_of_getElem? (i := 17) rfl)) rfl)) (hC.2.1 (Cond.methodLink RJ7 343 yJ7_checkLength_df160) (gw_t (tb4 (List.mem_of_getElem? (i := 211) rfl)) rfl)) ⟨by decide +kernel, by decide +kernel, by decide +kernel⟩ ⟨(Nat.le_of_ble_eq_true rfl), (Nat.le_of_ble_eq_true rfl)⟩, hC.2.1 (Cond.static yJ7_checkLength_df160) (gw_t (tb4 (List.mem_of_getElem? (i := 212) rfl)) rfl)⟩ rfl rfl (Nat.le_of_ble_eq_true rfl) dJ7_copyOfRangeByte_39247_2 ⟨(Nat.le_of_ble_eq_true rfl), (Nat.le_of_ble_eq_true rfl)⟩) (fun u H locs hp hP hD hS => ?_)
  have hP : va_P D vwCl ([(v, .inl (Y.2.2.1.1, mm, .inl f))]) H := hP
  have hD : va_D A ([(v, .inl (Y.2.2.1.1, mm, .inl f))]) := hD
  refine lv_iload_n hx hb dJ7_copyOfRangeByte_39247_5 rfl (lv_at hl 2 rfl) ?_
  refine lv_iload_n hx hb dJ7_copyOfRangeByte_39247_6 rfl (lv_at hl 1 rfl) ?_
  refine lv_isub hx hb dJ7_copyOfRangeByte_39247_7 ?_
  refine lv_topi (fun x1 ex1 => ?_)
  have ex1 : x1 = nI nn := ex1.trans (Int32.sub_zero _)
  subst ex1
  refine lv_istore_n (lv' := [(3, .int (nI nn)), (0, .ref v), (1, .int 0), (2, .int (nI nn))]) hx hb dJ7_copyOfRangeByte_39247_8 rfl hl (by decide) rfl (fun ls hl => ?_)
  refine lv_iload_n hx hb dJ7_copyOfRangeByte_39247_9 rfl (lv_at hl 0 rfl) ?_
  refine n_arrB (N' := nn) hC hb hP hD hS hA (nI_pos (by omega)) (nI_clamp (by omega)) (by omega) (Nat.le_of_ble_eq_true rfl) (by show 0 + nn ≤ 802; omega) dJ7_copyOfRangeByte_39247_10 (fun w H hP hD hS => ?_)
  have hP : va_P D vwCl ([(v, .inl (Y.2.2.1.1, mm, .inl f)), (w, .inl (Y.2.2.1.1, nn, .inl (fun _ => 0)))]) H := hP
  have hD : va_D A ([(v, .inl (Y.2.2.1.1, mm, .inl f)), (w, .inl (Y.2.2.1.1, nn, .inl (fun _ => 0)))]) := hD
  refine lv_astore (lv' := [(4, .ref w), (3, .int (nI nn)), (0, .ref v), (1, .int 0), (2, .int (nI nn))]) hx hb dJ7_copyOfRangeByte_39247_12 hl (by decide) rfl (fun ls hl => ?_)
  refine lv_aload_n hx hb dJ7_copyOfRangeByte_39247_14 rfl (lv_at hl 2 rfl) ?_
  refine lv_iload_n hx hb dJ7_copyOfRangeByte_39247_15 rfl (lv_at hl 3 rfl) ?_
  refine lv_aload hx hb dJ7_copyOfRangeByte_39247_16 (lv_at hl 0 rfl) ?_
  refine lv_iconst (v := 0) hx hb dJ7_copyOfRangeByte_39247_18 (by decide) ?_
  refine lv_aload_n hx hb dJ7_copyOfRangeByte_39247_19 rfl (lv_at hl 2 rfl) ?_
  refine va_alen (v := nI mm) hx hb hC.2.2.2.1 hP 0 2 rfl rfl rfl dJ7_copyOfRangeByte_39247_20 ?_
  refine lv_iload_n hx hb dJ7_copyOfRangeByte_39247_21 rfl (lv_at hl 3 rfl) ?_
  refine lv_isub hx hb dJ7_copyOfRangeByte_39247_22 ?_
  refine lv_topi (fun x2 ex2 => ?_)
  have ex2 : x2 = nI mm := ex2.trans (Int32.sub_zero _)
  subst ex2
  refine lv_iload_n hx hb dJ7_copyOfRangeByte_39247_23 rfl (lv_at hl 1 rfl) ?_
  refine va_mmin (rest := [.int 0, .ref w, .int 0, .ref v]) hx hb (by rw [hml]; exact hl.1.symm) hC.2.2.1 (hC.2.1 (Cond.methodLink RJ7 304 Lib.Math.min.name) (gw_t (tb4 (List.mem_of_getElem? (i := 72) rfl)) rfl)) (hC.2.1 (Cond.static Lib.Math.min.name) (gw_t (tb4 (List.mem_of_getElem? (i := 73) rfl)) rfl)) (hC.2.1 (Cond.initialized "java/lang/Math") (gw_t (tb1 (List.mem_of_getElem? (i := 16) rfl)) rfl)) (hC.2.1 (Cond.code Lib.Math.min.name Lib.Math.min.code 2 (some .int)) (gw_t (tb4 (List.mem_of_getElem? (i := 74) rfl)) rfl)) (Nat.le_of_ble_eq_true rfl) (Nat.le_of_ble_eq_true rfl) (Nat.le_of_ble_eq_true rfl) (by show 0 + nn ≤ 802; omega) dJ7_copyOfRangeByte_39247_24 ?_
  refine lv_topi (fun x3 ex3 => ?_)
  have ex3 : x3 = nI nn := ex3.trans (mn_n hn (by omega))
  subst ex3
  refine va_copyi (rest := []) hx hb (by rw [hml]; exact hl.1.symm) hC.2.2.1 (hC.2.1 (Cond.methodLink RJ7 150 arraycopyName) (gw_t (tb4 (List.mem_of_getElem? (i := 75) rfl)) rfl)) (hC.2.1 (Cond.native arraycopyName) (gw_t (tb3 (List.mem_of_getElem? (i := 106) rfl)) rfl)) (hC.2.1 (Cond.static arraycopyName) (gw_t (tb3 (List.mem_of_getElem? (i := 105) rfl)) rfl)) (hC.2.1 (Cond.initialized "java/lang/System") (gw_t (tb1 (List.mem_of_getElem? (i := 18) rfl)) rfl)) hC.2.2.2.1 hP hD hS 0 1 2 2 rfl rfl rfl rfl rfl (by decide) (by decide) (nI_pos (by omega)) (by rw [nI_clamp (by omega)]; show 0 + nn ≤ mm; omega) (by rw [nI_clamp (by omega)]; show 0 + nn ≤ nn; omega) (fun i _ => hf _) (Nat.le_of_ble_eq_true rfl) (Nat.le_of_ble_eq_true rfl) dJ7_copyOfRangeByte_39247_27 (fun H locs hP hD hS => ?_)
  rw [show (0 : Int32).toNatClampNeg = 0 from rfl, nI_clamp (n := nn) (by omega)] at hP hD
  have hP : va_P D vwCl ([(v, .inl (Y.2.2.1.1, mm, .inl f)), (w, .inl (Y.2.2.1.1, nn, .inl (va_cpy f (fun _ => 0) 0 0 nn)))]) H := hP
  have hD : va_D A ([(v, .inl (Y.2.2.1.1, mm, .inl f)), (w, .inl (Y.2.2.1.1, nn, .inl (va_cpy f (fun _ => 0) 0 0 nn)))]) := hD
  refine lv_aload hx hb dJ7_copyOfRangeByte_39247_30 (lv_at hl 0 rfl) ?_
  exact g_aret ((va_cpy f (fun _ => 0) 0 0 nn)) w hF (Or.inr ⟨_, rfl⟩) (⟨FB_cpy hf FB_0, fun j hj => cp0 hj⟩) hP hD hS dJ7_copyOfRangeByte_39247_32 (Nat.le_of_ble_eq_true rfl) (by show 0 + nn ≤ 802; omega)

abbrev rn_J7_copyOfRange_39247 : Room := { frames := 3, cells := 1, slots := 802, locals := 180 }
set_option maxHeartbeats 4000000 in
set_option maxRecDepth 100000 in
theorem c_J7_copyOfRange_39247 {l : Launch} {D : va_G} {Y : CYs} {v mm nn : Nat} {f : Nat → Int32} (hn : nn ≤ mm) (hm : mm ≤ 802) (hf : FB f) (sz : Nat) : Met l yJ7_copyOfRange_39247 (Cond.code yJ7_copyOfRange_39247 cJ7_copyOfRange_39247 3 (some (.array .byte)) :: gW) rn_J7_copyOfRange_39247 (PcE XN ([(v, .inl (Y.2.2.1.1, mm, .inl f))]) Y D sz [.ref v, .int 0, .int (nI nn)]) (GR (S := Nat → Int32) (fun u _ => FB u ∧ ∀ j, j < nn → u j = f j) (fun u r => [(v, .inl (Y.2.2.1.1, mm, .inl f)), (r, .inl (Y.2.2.1.1, nn, .inl u))]) Y D (va_A ([(v, .inl (Y.2.2.1.1, mm, .inl f))]) sz)) 1 802 (va_A ([(v, .inl (Y.2.2.1.1, mm, .inl f))]) sz) := by
  refine Met_ofE (Qc := GR (S := Nat → Int32) (fun u _ => FB u ∧ ∀ j, j < nn → u j = f j) (fun u r => [(v, .inl (Y.2.2.1.1, mm, .inl f)), (r, .inl (Y.2.2.1.1, nn, .inl u))]) Y D) (by decide) (Nat.le_of_ble_eq_true rfl) (fun p e s m args below meth c A hF hX hin hP hD hS ls hl => ?_) sz
  obtain ⟨hC, hb, hml, hr, hlk, hSW, hA⟩ := id hF
  have hx := hC.1
  have hl : lv_has ls 3 [(0, .ref v), (1, .int 0), (2, .int (nI nn))] := hl
  refine lv_iload_n hx hb dJ7_copyOfRange_39247_0 rfl (lv_at hl 1 rfl) ?_
  refine lv_if_ne (tgt := 10) hx hb dJ7_copyOfRange_39247_1 (by decide) (fun c1 => False.elim (c1 rfl)) (fun c1 => ?_)
  refine lv_iload_n hx hb dJ7_copyOfRange_39247_4 rfl (lv_at hl 2 rfl) ?_
  refine lv_aload_n hx hb dJ7_copyOfRange_39247_5 rfl (lv_at hl 0 rfl) ?_
  refine va_alen (v := nI mm) hx hb hC.2.2.2.1 hP 0 2 rfl rfl rfl dJ7_copyOfRange_39247_6 ?_
  refine lv_icmp_eq (tgt := 17) hx hb dJ7_copyOfRange_39247_7 (by decide) (fun c2 => ?_) (fun c2 => ?_)
  · have q : nn = mm := (nI_eq (a := nn) (b := mm) (by omega) (by omega)).mp c2
    subst q
    refine lv_aload_n hx hb dJ7_copyOfRange_39247_17 rfl (lv_at hl 0 rfl) ?_
    have hnm : s.vm.findClass "[B" = some Y.2.2.1.1 := by rw [show ("[B" : String) = "[" ++ (FieldType.byte).toString from by decide +kernel]; exact (hC.2.2.2.1.2 2 _ rfl).2
    refine va_clone (rest := []) hx hb (by rw [hml]; exact hl.1.symm) hC.2.2.1 (hC.2.1 (Cond.methodLink RJ7 310 ⟨"[B","clone","()Ljava/lang/Object;"⟩) (gw_t (tb4 (List.mem_of_getElem? (i := 65) rfl)) rfl)) (hC.2.1 (Cond.sameMethod "[B" "java/lang/Object" "clone" "()Ljava/lang/Object;") (gw_t (tb4 (List.mem_of_getElem? (i := 66) rfl)) rfl)) (hC.2.1 (Cond.native ⟨"java/lang/Object","clone","()Ljava/lang/Object;"⟩) (gw_t (tb4 (List.mem_of_getElem? (i := 67) rfl)) rfl)) (hC.2.1 (Cond.instanceMethod ⟨"java/lang/Object","clone","()Ljava/lang/Object;"⟩) (gw_t (tb4 (List.mem_of_getElem? (i := 68) rfl)) rfl)) (hC.2.1 (Cond.selects "[B" ⟨"[B","clone","()Ljava/lang/Object;"⟩ ⟨"java/lang/Object","clone","()Ljava/lang/Object;"⟩) (gw_t (tb4 (List.mem_of_getElem? (i := 69) rfl)) rfl)) (hC.2.2.2.2.1 _ (List.mem_of_getElem? (i := 56) rfl)) hC.2.2.2.1 hP hD hS hA 0 2 rfl rfl hnm (fit_cell hf) (Nat.le_of_ble_eq_true rfl) (Nat.le_of_ble_eq_true rfl) (Nat.le_of_ble_eq_true rfl) (by show 0 + nn ≤ 802; omega) dJ7_copyOfRange_39247_18 (fun w H _ hP hD hS => ?_)
    have hP : va_P D vwCl ([(v, .inl (Y.2.2.1.1, nn, .inl f)), (w, .inl (Y.2.2.1.1, nn, .inl f))]) H := hP
    have hD : va_D A ([(v, .inl (Y.2.2.1.1, nn, .inl f)), (w, .inl (Y.2.2.1.1, nn, .inl f))]) := hD
    refine va_castA hx hb hC.2.2.1 (hC.2.1 (Cond.classLink RJ7 311 "[B") (gw_t (tb4 (List.mem_of_getElem? (i := 71) rfl)) rfl)) hP 1 rfl hnm dJ7_copyOfRange_39247_21 ?_
    exact g_aret f w hF (Or.inr ⟨_, rfl⟩) (⟨hf, fun _ _ => rfl⟩) hP hD hS dJ7_copyOfRange_39247_24 (Nat.le_of_ble_eq_true rfl) (by show 0 + nn ≤ 802; omega)
  · refine lv_aload_n hx hb dJ7_copyOfRange_39247_10 rfl (lv_at hl 0 rfl) ?_
    refine lv_iload_n hx hb dJ7_copyOfRange_39247_11 rfl (lv_at hl 1 rfl) ?_
    refine lv_iload_n hx hb dJ7_copyOfRange_39247_12 rfl (lv_at hl 2 rfl) ?_
    refine g_r (Rs := []) (C0 := [(v, .inl (Y.2.2.1.1, mm, .inl f))]) (As := [.ref v, .int 0, .int (nI nn)]) hF hP hD hS XN_ok trivial (rS (As := [.ref v, .int 0, .int (nI nn)]) (rest := []) hF hl (c_J7_copyOfRangeByte_39247 hn hm hf _) ⟨callB_of 3 hC.2.1 (gi_law (gw_t (tb4 (List.mem_of_getElem? (i := 210) rfl)) rfl)) rfl rfl rfl (hC.2.1 (Cond.initialized RJ7) (gw_t (tb1 (List.mem_of_getElem? (i := 17) rfl)) rfl)) (hC.2.1 (Cond.methodLink RJ7 339 yJ7_copyOfRangeByte_39247) (gw_t (tb4 (List.mem_of_getElem? (i := 208) rfl)) rfl)) ⟨by decide +kernel, by decide +kernel, by decide +kernel⟩ ⟨(Nat.le_of_ble_eq_true rfl), (Nat.le_of_ble_eq_true rfl)⟩, hC.2.1 (Cond.static yJ7_copyOfRangeByte_39247) (gw_t (tb4 (List.mem_of_getElem? (i := 209) rfl)) rfl)⟩ rfl rfl (Nat.le_of_ble_eq_true rfl) dJ7_copyOfRange_39247_13 ⟨(Nat.le_of_ble_eq_true rfl), (Nat.le_of_ble_eq_true rfl)⟩) (fun w u H locs hp hP hD hS => ?_)
    have hP : va_P D vwCl ([(v, .inl (Y.2.2.1.1, mm, .inl f)), (w, .inl (Y.2.2.1.1, nn, .inl u))]) H := hP
    have hD : va_D A ([(v, .inl (Y.2.2.1.1, mm, .inl f)), (w, .inl (Y.2.2.1.1, nn, .inl u))]) := hD
    exact g_aret u w hF (Or.inr ⟨_, rfl⟩) hp hP hD hS dJ7_copyOfRange_39247_16 (Nat.le_of_ble_eq_true rfl) (Nat.le_of_ble_eq_true rfl)
