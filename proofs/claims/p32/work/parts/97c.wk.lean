/-! (by wip/p32/wk.py) -/
abbrev rn_X9_isGoal : Room := { frames := 1, cells := 0, slots := 0, locals := 60 }
set_option maxHeartbeats 4000000 in
set_option maxRecDepth 100000 in
theorem c_X9_isGoal {l : Launch} {D : va_G} {Y : CYs} {h g n0 bk jp sx a0 x y : Nat} {v : Nat → Int32} {fg : Nat → Option Nat} {rs : List (Nat × Nat × Nat)} (hv : WKv n0 bk jp v) (hw : WKi n0 fg rs) (hrow : rs[sx]? = some (a0, x, y)) (sz : Nat) : Met l yX9_isGoal (Cond.code yX9_isGoal cX9_isGoal 2 (some .boolean) :: gW) rn_X9_isGoal (PcE XN (wkW Y h g v fg rs) Y D sz [.ref h, .int (nI sx)]) (GI (S := Unit) (fun r _ => r = 0 ∨ r = 1) (fun _ => wkW Y h g v fg rs) Y D (va_A (wkW Y h g v fg rs) sz)) 0 0 (va_A (wkW Y h g v fg rs) sz) := by
  refine Met_ofE (Qc := GI (S := Unit) (fun r _ => r = 0 ∨ r = 1) (fun _ => wkW Y h g v fg rs) Y D) (by decide) (Nat.le_of_ble_eq_true rfl) (fun p e s m args below meth c A hF hX hin hP hD hS ls hl => ?_) sz
  obtain ⟨hC, hb, hml, hr, hlk, hSW, hA⟩ := id hF
  have hx := hC.1
  have hl : lv_has ls 2 [(0, .ref h), (1, .int (nI sx))] := hl
  have hlen := WKi_len hv.2.2.2.1 hw
  have hs := (List.getElem?_eq_some_iff.mp hrow).1
  have hfg : fg sx = some a0 := (hw.1 _ _ hrow).1
  have hxn : x ≤ n0 := (hw.1 _ _ hrow).2.1
  have hy3 : y ≤ 3 := (hw.1 _ _ hrow).2.2
  obtain ⟨v0, v4, v8, b1, b2, b3⟩ := id hv
  refine lv_aload_n hx hb dX9_isGoal_0 rfl (lv_at hl 0 rfl) ?_
  refine n_get hC hb hP inGX9 0 rfl rfl 7 (by decide) rfl (gw_t (tb3 (List.mem_of_getElem? (i := 209) rfl)) rfl) rfl dX9_isGoal_1 ?_
  refine lv_if_lt (tgt := 38) hx hb dX9_isGoal_4 (by decide) (fun c1 => ?_) (fun c1 => ?_)
  · refine lv_iconst (v := 0) hx hb dX9_isGoal_38 (by decide) ?_
    exact g_iret (()) hF rfl (Or.inl rfl) hP hD hS dX9_isGoal_39 (Nat.le_of_ble_eq_true rfl) (Nat.le_of_ble_eq_true rfl)
  · refine lv_aload_n hx hb dX9_isGoal_7 rfl (lv_at hl 0 rfl) ?_
    refine n_get hC hb hP inGX9 0 rfl rfl 9 (by decide) rfl (gw_t (tb3 (List.mem_of_getElem? (i := 211) rfl)) rfl) rfl dX9_isGoal_8 ?_
    refine lv_iload_n hx hb dX9_isGoal_11 rfl (lv_at hl 1 rfl) ?_
    refine n_aald (q0 := 1) hC hb hP rfl (vp_in_nI (by omega) (by decide)) (r := a0) (by rw [nI_clamp (by omega)]; exact hfg) dX9_isGoal_12 ?_
    refine lv_iconst (v := 0) hx hb dX9_isGoal_13 (by decide) ?_
    refine va_iald hx hb hC.2.2.2.1 hP (sx + 2) 0 (wk_row hrow) rfl v_0 dX9_isGoal_14 ?_
    refine lv_topi (fun x2 ex2 => ?_)
    have ex2 : x2 = nI x := ex2.trans (rfl)
    subst ex2
    refine lv_aload_n hx hb dX9_isGoal_15 rfl (lv_at hl 0 rfl) ?_
    refine n_get hC hb hP inGX9 0 rfl rfl 7 (by decide) rfl (gw_t (tb3 (List.mem_of_getElem? (i := 209) rfl)) rfl) rfl dX9_isGoal_16 ?_
    refine lv_icmp_ne (tgt := 38) hx hb dX9_isGoal_19 (by decide) (fun c3 => ?_) (fun c3 => ?_)
    · refine lv_iconst (v := 0) hx hb dX9_isGoal_38 (by decide) ?_
      exact g_iret (()) hF rfl (Or.inl rfl) hP hD hS dX9_isGoal_39 (Nat.le_of_ble_eq_true rfl) (Nat.le_of_ble_eq_true rfl)
    · refine lv_aload_n hx hb dX9_isGoal_22 rfl (lv_at hl 0 rfl) ?_
      refine n_get hC hb hP inGX9 0 rfl rfl 9 (by decide) rfl (gw_t (tb3 (List.mem_of_getElem? (i := 211) rfl)) rfl) rfl dX9_isGoal_23 ?_
      refine lv_iload_n hx hb dX9_isGoal_26 rfl (lv_at hl 1 rfl) ?_
      refine n_aald (q0 := 1) hC hb hP rfl (vp_in_nI (by omega) (by decide)) (r := a0) (by rw [nI_clamp (by omega)]; exact hfg) dX9_isGoal_27 ?_
      refine lv_iconst (v := 1) hx hb dX9_isGoal_28 (by decide) ?_
      refine va_iald hx hb hC.2.2.2.1 hP (sx + 2) 0 (wk_row hrow) rfl v_1 dX9_isGoal_29 ?_
      refine lv_topi (fun x4 ex4 => ?_)
      have ex4 : x4 = nI y := ex4.trans (rfl)
      subst ex4
      refine lv_iconst (v := 3) hx hb dX9_isGoal_30 (by decide) ?_
      refine lv_icmp_eq (tgt := 38) hx hb dX9_isGoal_31 (by decide) (fun c5 => ?_) (fun c5 => ?_)
      · refine lv_iconst (v := 0) hx hb dX9_isGoal_38 (by decide) ?_
        exact g_iret (()) hF rfl (Or.inl rfl) hP hD hS dX9_isGoal_39 (Nat.le_of_ble_eq_true rfl) (Nat.le_of_ble_eq_true rfl)
      · refine lv_iconst (v := 1) hx hb dX9_isGoal_34 (by decide) ?_
        refine lv_goto (tgt := 39) hx hb dX9_isGoal_35 (by decide) ?_
        exact g_iret (()) hF rfl (Or.inr rfl) hP hD hS dX9_isGoal_39 (Nat.le_of_ble_eq_true rfl) (Nat.le_of_ble_eq_true rfl)

abbrev rn_X9_isEnabled : Room := { frames := 2, cells := 0, slots := 0, locals := 120 }
set_option maxHeartbeats 4000000 in
set_option maxRecDepth 100000 in
theorem c_X9_isEnabled {l : Launch} {D : va_G} {Y : CYs} {cx h g n0 bk jp sx a0 x y : Nat} {v : Nat → Int32} {fg : Nat → Option Nat} {rs : List (Nat × Nat × Nat)} (hv : WKv n0 bk jp v) (hw : WKi n0 fg rs) (hrow : rs[sx]? = some (a0, x, y)) (hc3 : cx < 3) (sz : Nat) : Met l yX9_isEnabled (Cond.code yX9_isEnabled cX9_isEnabled 5 (some .boolean) :: gW) rn_X9_isEnabled (PcE XN (wkW Y h g v fg rs) Y D sz [.ref h, .int (nI sx), .int (nI cx)]) (GI (S := Unit) (fun r _ => r = 0 ∨ (r = 1 ∧ (cx = 0 → x < n0) ∧ (cx = 1 → 0 < y) ∧ (cx = 2 → jp ≤ x))) (fun _ => wkW Y h g v fg rs) Y D (va_A (wkW Y h g v fg rs) sz)) 0 0 (va_A (wkW Y h g v fg rs) sz) := by
  refine Met_ofE (Qc := GI (S := Unit) (fun r _ => r = 0 ∨ (r = 1 ∧ (cx = 0 → x < n0) ∧ (cx = 1 → 0 < y) ∧ (cx = 2 → jp ≤ x))) (fun _ => wkW Y h g v fg rs) Y D) (by decide) (Nat.le_of_ble_eq_true rfl) (fun p e s m args below meth c A hF hX hin hP hD hS ls hl => ?_) sz
  obtain ⟨hC, hb, hml, hr, hlk, hSW, hA⟩ := id hF
  have hx := hC.1
  have hl : lv_has ls 5 [(0, .ref h), (1, .int (nI sx)), (2, .int (nI cx))] := hl
  have hlen := WKi_len hv.2.2.2.1 hw
  have hs := (List.getElem?_eq_some_iff.mp hrow).1
  have hfg : fg sx = some a0 := (hw.1 _ _ hrow).1
  have hxn : x ≤ n0 := (hw.1 _ _ hrow).2.1
  have hy3 : y ≤ 3 := (hw.1 _ _ hrow).2.2
  obtain ⟨v0, v4, v8, b1, b2, b3⟩ := id hv
  refine lv_aload_n hx hb dX9_isEnabled_0 rfl (lv_at hl 0 rfl) ?_
  refine n_get hC hb hP inGX9 0 rfl rfl 9 (by decide) rfl (gw_t (tb3 (List.mem_of_getElem? (i := 211) rfl)) rfl) rfl dX9_isEnabled_1 ?_
  refine lv_iload_n hx hb dX9_isEnabled_4 rfl (lv_at hl 1 rfl) ?_
  refine n_aald (q0 := 1) hC hb hP rfl (vp_in_nI (by omega) (by decide)) (r := a0) (by rw [nI_clamp (by omega)]; exact hfg) dX9_isEnabled_5 ?_
  refine lv_iconst (v := 0) hx hb dX9_isEnabled_6 (by decide) ?_
  refine va_iald hx hb hC.2.2.2.1 hP (sx + 2) 0 (wk_row hrow) rfl v_0 dX9_isEnabled_7 ?_
  refine lv_topi (fun x1 ex1 => ?_)
  have ex1 : x1 = nI x := ex1.trans (rfl)
  subst ex1
  refine lv_istore_n (lv' := [(3, .int (nI x)), (0, .ref h), (1, .int (nI sx)), (2, .int (nI cx))]) hx hb dX9_isEnabled_8 rfl hl (by decide) rfl (fun ls hl => ?_)
  refine lv_aload_n hx hb dX9_isEnabled_9 rfl (lv_at hl 1 rfl) ?_
  refine n_get hC hb hP inGX9 0 rfl rfl 9 (by decide) rfl (gw_t (tb3 (List.mem_of_getElem? (i := 211) rfl)) rfl) rfl dX9_isEnabled_10 ?_
  refine lv_iload_n hx hb dX9_isEnabled_13 rfl (lv_at hl 2 rfl) ?_
  refine n_aald (q0 := 1) hC hb hP rfl (vp_in_nI (by omega) (by decide)) (r := a0) (by rw [nI_clamp (by omega)]; exact hfg) dX9_isEnabled_14 ?_
  refine lv_iconst (v := 1) hx hb dX9_isEnabled_15 (by decide) ?_
  refine va_iald hx hb hC.2.2.2.1 hP (sx + 2) 0 (wk_row hrow) rfl v_1 dX9_isEnabled_16 ?_
  refine lv_topi (fun x2 ex2 => ?_)
  have ex2 : x2 = nI y := ex2.trans (rfl)
  subst ex2
  refine lv_istore (lv' := [(4, .int (nI y)), (3, .int (nI x)), (0, .ref h), (1, .int (nI sx)), (2, .int (nI cx))]) hx hb dX9_isEnabled_17 hl (by decide) rfl (fun ls hl => ?_)
  refine lv_aload_n hx hb dX9_isEnabled_19 rfl (lv_at hl 2 rfl) ?_
  refine lv_iload_n hx hb dX9_isEnabled_20 rfl (lv_at hl 3 rfl) ?_
  refine g_i (Rs := []) (C0 := (h, .inr (11, [.int (v 0), .int (v 1), .int (v 2), .int (v 3), .int (v 4), .int (v 5), .int (v 6), .int (v 7), .int (v 8), .ref g, .int (nI rs.length)])) :: (g, .inl (Y.2.2.1.2, 100, .inr (.inr (.inr (.inr fg))))) :: rwW Y rs) (As := [.ref h, .int (nI sx)]) hF hP hD hS XN_ok trivial (rV (As := [.int (nI sx)]) (rest := []) hF hl (c_X9_isGoal hv hw hrow _) (cwV 1 hC.2.1 (gi_V (gw_t (tb3 (List.mem_of_getElem? (i := 194) rfl)) rfl) (gw_t (tb3 (List.mem_of_getElem? (i := 195) rfl)) rfl) (gw_t (tb3 (List.mem_of_getElem? (i := 196) rfl)) rfl) (gw_t (tb1 (List.mem_of_getElem? (i := 10) rfl)) rfl) (gw_t (tb3 (List.mem_of_getElem? (i := 197) rfl)) rfl)) rfl rfl rfl ⟨rfl, by decide +kernel, by decide +kernel, by decide +kernel⟩ ⟨(Nat.le_of_ble_eq_true rfl), (Nat.le_of_ble_eq_true rfl)⟩) (va_recv hC.2.2.2.1 hP (q0 := 0) rfl rfl) rfl rfl (Nat.le_of_ble_eq_true rfl) dX9_isEnabled_21 ⟨(Nat.le_of_ble_eq_true rfl), (Nat.le_of_ble_eq_true rfl)⟩) (fun r u H locs hp hP hD hS => ?_)
  have hP : va_P D vwCl ((h, .inr (11, [.int (v 0), .int (v 1), .int (v 2), .int (v 3), .int (v 4), .int (v 5), .int (v 6), .int (v 7), .int (v 8), .ref g, .int (nI rs.length)])) :: (g, .inl (Y.2.2.1.2, 100, .inr (.inr (.inr (.inr fg))))) :: rwW Y rs) H := hP
  have hD : va_D A ((h, .inr (11, [.int (v 0), .int (v 1), .int (v 2), .int (v 3), .int (v 4), .int (v 5), .int (v 6), .int (v 7), .int (v 8), .ref g, .int (nI rs.length)])) :: (g, .inl (Y.2.2.1.2, 100, .inr (.inr (.inr (.inr fg))))) :: rwW Y rs) := hD
  refine lv_if_ne (tgt := 73) hx hb dX9_isEnabled_24 (by decide) (fun c3 => ?_) (fun c3 => ?_)
  · refine lv_iconst (v := 0) hx hb dX9_isEnabled_73 (by decide) ?_
    exact g_iret (()) hF rfl (Or.inl rfl) hP hD hS dX9_isEnabled_74 (Nat.le_of_ble_eq_true rfl) (Nat.le_of_ble_eq_true rfl)
  · refine lv_iload_n hx hb dX9_isEnabled_27 rfl (lv_at hl 4 rfl) ?_
    refine lv_if_ne (tgt := 42) hx hb dX9_isEnabled_28 (by decide) (fun c4 => ?_) (fun c4 => ?_)
    · have k0 : ¬ cx = 0 := fun h => c4 (by rw [h]; rfl)
      refine lv_iload_n hx hb dX9_isEnabled_42 rfl (lv_at hl 4 rfl) ?_
      refine lv_iconst (v := 1) hx hb dX9_isEnabled_43 (by decide) ?_
      refine lv_icmp_ne (tgt := 55) hx hb dX9_isEnabled_44 (by decide) (fun c5 => ?_) (fun c5 => ?_)
      · have k1 : ¬ cx = 1 := fun h => c5 (by rw [h]; rfl)
        refine lv_iload_n hx hb dX9_isEnabled_55 rfl (lv_at hl 1 rfl) ?_
        refine lv_aload_n hx hb dX9_isEnabled_56 rfl (lv_at hl 2 rfl) ?_
        refine n_get hC hb hP inGX9 0 rfl rfl 8 (by decide) rfl (gw_t (tb3 (List.mem_of_getElem? (i := 210) rfl)) rfl) rfl dX9_isEnabled_57 ?_
        refine lv_topi (fun x6 ex6 => ?_)
        have ex6 : x6 = nI jp := ex6.trans (v8)
        subst ex6
        refine lv_icmp_lt (tgt := 73) hx hb dX9_isEnabled_60 (by decide) (fun c7 => ?_) (fun c7 => ?_)
        · refine lv_iconst (v := 0) hx hb dX9_isEnabled_73 (by decide) ?_
          exact g_iret (()) hF rfl (Or.inl rfl) hP hD hS dX9_isEnabled_74 (Nat.le_of_ble_eq_true rfl) (Nat.le_of_ble_eq_true rfl)
        · have k2 : jp ≤ x := Nat.le_of_not_lt (fun h => c7 (nI_lt h (by omega)))
          refine lv_iload hx hb dX9_isEnabled_63 (lv_at hl 0 rfl) ?_
          refine lv_iconst (v := 1) hx hb dX9_isEnabled_65 (by decide) ?_
          refine lv_icmp_eq (tgt := 73) hx hb dX9_isEnabled_66 (by decide) (fun c8 => ?_) (fun c8 => ?_)
          · refine lv_iconst (v := 0) hx hb dX9_isEnabled_73 (by decide) ?_
            exact g_iret (()) hF rfl (Or.inl rfl) hP hD hS dX9_isEnabled_74 (Nat.le_of_ble_eq_true rfl) (Nat.le_of_ble_eq_true rfl)
          · refine lv_iconst (v := 1) hx hb dX9_isEnabled_69 (by decide) ?_
            refine lv_goto (tgt := 74) hx hb dX9_isEnabled_70 (by decide) ?_
            exact g_iret (()) hF rfl (Or.inr ⟨rfl, by omega, by omega, by omega⟩) hP hD hS dX9_isEnabled_74 (Nat.le_of_ble_eq_true rfl) (Nat.le_of_ble_eq_true rfl)
      · have k1 : cx = 1 := (nI_eq (b := 1) (by omega) (by decide)).mp c5
        refine lv_iload hx hb dX9_isEnabled_47 (lv_at hl 0 rfl) ?_
        refine lv_if_le (tgt := 73) hx hb dX9_isEnabled_49 (by decide) (fun c6 => ?_) (fun c6 => ?_)
        · refine lv_iconst (v := 0) hx hb dX9_isEnabled_73 (by decide) ?_
          exact g_iret (()) hF rfl (Or.inl rfl) hP hD hS dX9_isEnabled_74 (Nat.le_of_ble_eq_true rfl) (Nat.le_of_ble_eq_true rfl)
        · have k2 : 0 < y := Nat.pos_of_ne_zero (fun h => c6 (by rw [h]; decide))
          refine lv_goto (tgt := 69) hx hb dX9_isEnabled_52 (by decide) ?_
          refine lv_iconst (v := 1) hx hb dX9_isEnabled_69 (by decide) ?_
          refine lv_goto (tgt := 74) hx hb dX9_isEnabled_70 (by decide) ?_
          exact g_iret (()) hF rfl (Or.inr ⟨rfl, by omega, by omega, by omega⟩) hP hD hS dX9_isEnabled_74 (Nat.le_of_ble_eq_true rfl) (Nat.le_of_ble_eq_true rfl)
    · have k0 : cx = 0 := (nI_eq (b := 0) (by omega) (by decide)).mp c4
      refine lv_iload_n hx hb dX9_isEnabled_31 rfl (lv_at hl 1 rfl) ?_
      refine lv_aload_n hx hb dX9_isEnabled_32 rfl (lv_at hl 2 rfl) ?_
      refine n_get hC hb hP inGX9 0 rfl rfl 0 (by decide) rfl (gw_t (tb3 (List.mem_of_getElem? (i := 202) rfl)) rfl) rfl dX9_isEnabled_33 ?_
      refine lv_topi (fun x5 ex5 => ?_)
      have ex5 : x5 = nI n0 := ex5.trans (v0)
      subst ex5
      refine lv_icmp_ge (tgt := 73) hx hb dX9_isEnabled_36 (by decide) (fun c6 => ?_) (fun c6 => ?_)
      · refine lv_iconst (v := 0) hx hb dX9_isEnabled_73 (by decide) ?_
        exact g_iret (()) hF rfl (Or.inl rfl) hP hD hS dX9_isEnabled_74 (Nat.le_of_ble_eq_true rfl) (Nat.le_of_ble_eq_true rfl)
      · have k2 : x < n0 := Nat.lt_of_not_le (fun h => c6 (nI_le h (by omega)))
        refine lv_goto (tgt := 69) hx hb dX9_isEnabled_39 (by decide) ?_
        refine lv_iconst (v := 1) hx hb dX9_isEnabled_69 (by decide) ?_
        refine lv_goto (tgt := 74) hx hb dX9_isEnabled_70 (by decide) ?_
        exact g_iret (()) hF rfl (Or.inr ⟨rfl, by omega, by omega, by omega⟩) hP hD hS dX9_isEnabled_74 (Nat.le_of_ble_eq_true rfl) (Nat.le_of_ble_eq_true rfl)

abbrev rn_X9_branches : Room := { frames := 1, cells := 0, slots := 0, locals := 60 }
set_option maxHeartbeats 4000000 in
set_option maxRecDepth 100000 in
theorem c_X9_branches {l : Launch} {D : va_G} {Y : CYs} {cx h g n0 : Nat} {v : Nat → Int32} {fg : Nat → Option Nat} {rs : List (Nat × Nat × Nat)} (sz : Nat) : Met l yX9_branches (Cond.code yX9_branches cX9_branches 2 (some .int) :: gW) rn_X9_branches (PcE XN (wkW Y h g v fg rs) Y D sz [.ref h, .int (nI cx)]) (GI (S := Unit) (fun r _ => ∃ b, b ≤ 3 ∧ r = nI b) (fun _ => wkW Y h g v fg rs) Y D (va_A (wkW Y h g v fg rs) sz)) 0 0 (va_A (wkW Y h g v fg rs) sz) := by
  refine Met_ofE (Qc := GI (S := Unit) (fun r _ => ∃ b, b ≤ 3 ∧ r = nI b) (fun _ => wkW Y h g v fg rs) Y D) (by decide) (Nat.le_of_ble_eq_true rfl) (fun p e s m args below meth c A hF hX hin hP hD hS ls hl => ?_) sz
  obtain ⟨hC, hb, hml, hr, hlk, hSW, hA⟩ := id hF
  have hx := hC.1
  have hl : lv_has ls 2 [(0, .ref h), (1, .int (nI cx))] := hl
  refine lv_iload_n hx hb dX9_branches_0 rfl (lv_at hl 1 rfl) ?_
  refine lv_if_ne (tgt := 8) hx hb dX9_branches_1 (by decide) (fun c1 => ?_) (fun c1 => ?_)
  · refine lv_iload_n hx hb dX9_branches_8 rfl (lv_at hl 1 rfl) ?_
    refine lv_iconst (v := 1) hx hb dX9_branches_9 (by decide) ?_
    refine lv_icmp_ne (tgt := 17) hx hb dX9_branches_10 (by decide) (fun c2 => ?_) (fun c2 => ?_)
    · refine lv_iconst (v := 2) hx hb dX9_branches_17 (by decide) ?_
      exact g_iret (()) hF rfl (⟨2, by decide, rfl⟩) hP hD hS dX9_branches_18 (Nat.le_of_ble_eq_true rfl) (Nat.le_of_ble_eq_true rfl)
    · refine lv_iconst (v := 1) hx hb dX9_branches_13 (by decide) ?_
      refine lv_goto (tgt := 18) hx hb dX9_branches_14 (by decide) ?_
      exact g_iret (()) hF rfl (⟨1, by decide, rfl⟩) hP hD hS dX9_branches_18 (Nat.le_of_ble_eq_true rfl) (Nat.le_of_ble_eq_true rfl)
  · refine lv_iconst (v := 3) hx hb dX9_branches_4 (by decide) ?_
    refine lv_goto (tgt := 18) hx hb dX9_branches_5 (by decide) ?_
    exact g_iret (()) hF rfl (⟨3, by decide, rfl⟩) hP hD hS dX9_branches_18 (Nat.le_of_ble_eq_true rfl) (Nat.le_of_ble_eq_true rfl)
