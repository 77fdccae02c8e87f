/-! (by wip/p32/wk.py) -/
abbrev rn_X9_find : Room := { frames := 1, cells := 0, slots := 0, locals := 60 }
set_option maxHeartbeats 4000000 in
set_option maxRecDepth 100000 in
theorem c_X9_find {l : Launch} {D : va_G} {Y : CYs} {h g n0 bk jp q x y : Nat} {v : Nat → Int32} {fg : Nat → Option Nat} {rs : List (Nat × Nat × Nat)} (hv : WKv n0 bk jp v) (hw : WKi n0 fg rs) (hxn : x ≤ n0) (hy3 : y ≤ 3) (sz : Nat) : Met l yX9_find (Cond.code yX9_find cX9_find 3 (some .int) :: gW) rn_X9_find (PcE XN ((h, .inr (11, wkO v g rs.length)) :: (g, .inl (Y.2.2.1.2, 100, .inr (.inr (.inr (.inr fg))))) :: (rwW Y rs ++ [rwC Y (q, x, y)])) Y D sz [.ref h, .ref q]) (GI (S := (Nat → Option Nat) × List (Nat × Nat × Nat)) (fun _ u => WKi n0 u.1 u.2 ∧ ∀ (i : Nat) (r : Nat × Nat × Nat), rs[i]? = some r → u.2[i]? = some r) (fun u => wkW Y h g v u.1 u.2) Y D (va_A ((h, .inr (11, wkO v g rs.length)) :: (g, .inl (Y.2.2.1.2, 100, .inr (.inr (.inr (.inr fg))))) :: (rwW Y rs ++ [rwC Y (q, x, y)])) sz)) 0 0 (va_A ((h, .inr (11, wkO v g rs.length)) :: (g, .inl (Y.2.2.1.2, 100, .inr (.inr (.inr (.inr fg))))) :: (rwW Y rs ++ [rwC Y (q, x, y)])) sz) := by
  refine Met_ofE (Qc := GI (S := (Nat → Option Nat) × List (Nat × Nat × Nat)) (fun _ u => WKi n0 u.1 u.2 ∧ ∀ (i : Nat) (r : Nat × Nat × Nat), rs[i]? = some r → u.2[i]? = some r) (fun u => wkW Y h g v u.1 u.2) Y D) (by decide) (Nat.le_of_ble_eq_true rfl) (fun p e s m args below meth c A hF hX hin hP hD hS ls hl => ?_) sz
  obtain ⟨hC, hb, hml, hr, hlk, hSW, hA⟩ := id hF
  have hx := hC.1
  have hl : lv_has ls 3 [(0, .ref h), (1, .ref q)] := hl
  have hlen := WKi_len hv.2.2.2.1 hw
  obtain ⟨v0, v4, v8, b1, b2, b3⟩ := id hv
  have hP : va_P D vwCl ((h, .inr (11, [.int (v 0), .int (v 1), .int (v 2), .int (v 3), .int (v 4), .int (v 5), .int (v 6), .int (v 7), .int (v 8), .ref g, .int (nI rs.length)])) :: (g, .inl (Y.2.2.1.2, 100, .inr (.inr (.inr (.inr fg))))) :: (rwW Y rs ++ [rwC Y (q, x, y)])) s.heap := hP
  have hD : va_D A ((h, .inr (11, [.int (v 0), .int (v 1), .int (v 2), .int (v 3), .int (v 4), .int (v 5), .int (v 6), .int (v 7), .int (v 8), .ref g, .int (nI rs.length)])) :: (g, .inl (Y.2.2.1.2, 100, .inr (.inr (.inr (.inr fg))))) :: (rwW Y rs ++ [rwC Y (q, x, y)])) := hD
  refine lv_iconst (v := 0) hx hb dX9_find_0 (by decide) ?_
  refine lv_istore_n (lv' := [(2, .int 0), (0, .ref h), (1, .ref q)]) hx hb dX9_find_1 rfl hl (by decide) rfl (fun ls hl => ?_)
  have loop : ∀ (r i : Nat) (ls : Array Slot), i + r = rs.length → (∀ j, j < i → ∀ rj, rs[j]? = some rj → rj.2 ≠ (x, y)) → lv_has ls 3 [(0, .ref h), (1, .ref q), (2, .int (nI i))] → W p l e rn_X9_find s m args below meth c s.heap [] 0 0 (MQ below (GI (S := (Nat → Option Nat) × List (Nat × Nat × Nat)) (fun _ u => WKi n0 u.1 u.2 ∧ ∀ (i : Nat) (r : Nat × Nat × Nat), rs[i]? = some r → u.2[i]? = some r) (fun u => wkW Y h g v u.1 u.2) Y D A) args s 0 0 A) (F0 m 2 ls []) := by
    intro r
    induction r with
    | zero =>
      intro i ls hi hne hl
      obtain rfl : i = rs.length := by omega
      refine lv_iload_n hx hb dX9_find_2 rfl (lv_at hl 2 rfl) ?_
      refine lv_aload_n hx hb dX9_find_3 rfl (lv_at hl 0 rfl) ?_
      refine n_get hC hb hP inGX9 0 rfl rfl 10 (by decide) rfl (gw_t (tb3 (List.mem_of_getElem? (i := 212) rfl)) rfl) rfl dX9_find_4 ?_
      refine lv_icmp_ge (tgt := 46) hx hb dX9_find_7 (by decide) (fun c1 => ?_) (fun c1 => False.elim (c1 (nI_le (Nat.le_refl _) (by omega))))
      have hw2 : WKi n0 (va_up fg rs.length (some q)) (rs ++ [(q, x, y)]) := WKi_app hw hxn hy3 (fun j rj hj => hne j (List.getElem?_eq_some_iff.mp hj).1 rj hj)
      have hlen2 := WKi_len hv.2.2.2.1 hw2
      rw [List.length_append] at hlen2
      have hlen3 : rs.length < 88 := hlen2
      refine lv_aload_n hx hb dX9_find_46 rfl (lv_at hl 0 rfl) ?_
      refine n_get hC hb hP inGX9 0 rfl rfl 9 (by decide) rfl (gw_t (tb3 (List.mem_of_getElem? (i := 211) rfl)) rfl) rfl dX9_find_47 ?_
      refine lv_aload_n hx hb dX9_find_50 rfl (lv_at hl 0 rfl) ?_
      refine n_get hC hb hP inGX9 0 rfl rfl 10 (by decide) rfl (gw_t (tb3 (List.mem_of_getElem? (i := 212) rfl)) rfl) rfl dX9_find_51 ?_
      refine lv_aload_n hx hb dX9_find_54 rfl (lv_at hl 1 rfl) ?_
      refine n_aast (q0 := 1) (qk := rs.length + 2) hC hb hP hD hS rfl wk_last (vp_in_nI (n := rs.length) (by omega) (by decide)) dX9_find_55 (fun H locs hP hD hS => ?_)
      rw [nI_clamp (n := rs.length) (by omega)] at hP hD
      have hP : va_P D vwCl ((h, .inr (11, [.int (v 0), .int (v 1), .int (v 2), .int (v 3), .int (v 4), .int (v 5), .int (v 6), .int (v 7), .int (v 8), .ref g, .int (nI rs.length)])) :: (g, .inl (Y.2.2.1.2, 100, .inr (.inr (.inr (.inr (va_up fg rs.length (some q))))))) :: (rwW Y rs ++ [rwC Y (q, x, y)])) H := hP
      have hD : va_D A ((h, .inr (11, [.int (v 0), .int (v 1), .int (v 2), .int (v 3), .int (v 4), .int (v 5), .int (v 6), .int (v 7), .int (v 8), .ref g, .int (nI rs.length)])) :: (g, .inl (Y.2.2.1.2, 100, .inr (.inr (.inr (.inr (va_up fg rs.length (some q))))))) :: (rwW Y rs ++ [rwC Y (q, x, y)])) := hD
      refine lv_aload_n hx hb dX9_find_56 rfl (lv_at hl 0 rfl) ?_
      refine lv_dup hx hb dX9_find_57 rfl ?_
      refine n_get hC hb hP inGX9 0 rfl rfl 10 (by decide) rfl (gw_t (tb3 (List.mem_of_getElem? (i := 212) rfl)) rfl) rfl dX9_find_58 ?_
      refine lv_iconst (v := 1) hx hb dX9_find_61 (by decide) ?_
      refine lv_iadd hx hb dX9_find_62 ?_
      refine lv_topi (fun x2 ex2 => ?_)
      have ex2 : x2 = nI (rs.length + 1) := ex2.trans (nI_1 _)
      subst ex2
      refine n_put hC hb hP hD hS inGX9 tyX9 tyX9_ok nmX9 0 rfl rfl 10 (by decide) (gw_t (tb3 (List.mem_of_getElem? (i := 212) rfl)) rfl) rfl rfl rfl rfl rfl (Nat.le_of_ble_eq_true rfl) dX9_find_63 (fun H locs hP hD hS => ?_)
      have hP : va_P D vwCl ((h, .inr (11, [.int (v 0), .int (v 1), .int (v 2), .int (v 3), .int (v 4), .int (v 5), .int (v 6), .int (v 7), .int (v 8), .ref g, .int (nI (rs.length + 1))])) :: (g, .inl (Y.2.2.1.2, 100, .inr (.inr (.inr (.inr (va_up fg rs.length (some q))))))) :: (rwW Y rs ++ [rwC Y (q, x, y)])) H := hP
      have hD : va_D A ((h, .inr (11, [.int (v 0), .int (v 1), .int (v 2), .int (v 3), .int (v 4), .int (v 5), .int (v 6), .int (v 7), .int (v 8), .ref g, .int (nI (rs.length + 1))])) :: (g, .inl (Y.2.2.1.2, 100, .inr (.inr (.inr (.inr (va_up fg rs.length (some q))))))) :: (rwW Y rs ++ [rwC Y (q, x, y)])) := hD
      refine lv_aload_n hx hb dX9_find_66 rfl (lv_at hl 0 rfl) ?_
      refine n_get hC hb hP inGX9 0 rfl rfl 10 (by decide) rfl (gw_t (tb3 (List.mem_of_getElem? (i := 212) rfl)) rfl) rfl dX9_find_67 ?_
      refine lv_iconst (v := 1) hx hb dX9_find_70 (by decide) ?_
      refine lv_isub hx hb dX9_find_71 ?_
      refine lv_topi (fun xr exr => ?_)
      have hP : va_P D vwCl (wkW Y h g v (va_up fg rs.length (some q)) (rs ++ [(q, x, y)])) H := by rw [wk_app]; exact hP
      have hD : va_D A (wkW Y h g v (va_up fg rs.length (some q)) (rs ++ [(q, x, y)])) := by rw [wk_app]; exact hD
      exact g_iret ((va_up fg rs.length (some q), rs ++ [(q, x, y)])) hF rfl (⟨hw2, fun i r hi => by rw [List.getElem?_append_left (List.getElem?_eq_some_iff.mp hi).1]; exact hi⟩) hP hD hS dX9_find_72 (Nat.le_of_ble_eq_true rfl) (Nat.le_of_ble_eq_true rfl)
    | succ r ih =>
      intro i ls hi hne hl
      obtain ⟨⟨a0, x0, y0⟩, hrow⟩ : ∃ r0, rs[i]? = some r0 := ⟨rs[i], List.getElem?_eq_getElem (by omega)⟩
      have hfg : fg i = some a0 := (hw.1 _ _ hrow).1
      have hx0 : x0 ≤ n0 := (hw.1 _ _ hrow).2.1
      have hy0 : y0 ≤ 3 := (hw.1 _ _ hrow).2.2
      refine lv_iload_n hx hb dX9_find_2 rfl (lv_at hl 2 rfl) ?_
      refine lv_aload_n hx hb dX9_find_3 rfl (lv_at hl 0 rfl) ?_
      refine n_get hC hb hP inGX9 0 rfl rfl 10 (by decide) rfl (gw_t (tb3 (List.mem_of_getElem? (i := 212) rfl)) rfl) rfl dX9_find_4 ?_
      refine lv_icmp_ge (tgt := 46) hx hb dX9_find_7 (by decide) (fun c1 => False.elim (nI_ge (a := i) (b := rs.length) (by omega) (by omega) c1)) (fun c1 => ?_)
      refine lv_aload_n hx hb dX9_find_10 rfl (lv_at hl 0 rfl) ?_
      refine n_get hC hb hP inGX9 0 rfl rfl 9 (by decide) rfl (gw_t (tb3 (List.mem_of_getElem? (i := 211) rfl)) rfl) rfl dX9_find_11 ?_
      refine lv_iload_n hx hb dX9_find_14 rfl (lv_at hl 2 rfl) ?_
      refine n_aald (q0 := 1) hC hb hP rfl (vp_in_nI (by omega) (by decide)) (r := a0) (by rw [nI_clamp (by omega)]; exact hfg) dX9_find_15 ?_
      refine lv_iconst (v := 0) hx hb dX9_find_16 (by decide) ?_
      refine va_iald hx hb hC.2.2.2.1 hP (i + 2) 0 (wk_rowT hrow) rfl v_0 dX9_find_17 ?_
      refine lv_topi (fun x2 ex2 => ?_)
      have ex2 : x2 = nI x0 := ex2.trans (rfl)
      subst ex2
      refine lv_aload_n hx hb dX9_find_18 rfl (lv_at hl 1 rfl) ?_
      refine lv_iconst (v := 0) hx hb dX9_find_19 (by decide) ?_
      refine va_iald hx hb hC.2.2.2.1 hP (rs.length + 2) 0 wk_last rfl v_0 dX9_find_20 ?_
      refine lv_topi (fun x3 ex3 => ?_)
      have ex3 : x3 = nI x := ex3.trans (rfl)
      subst ex3
      refine lv_icmp_ne (tgt := 40) hx hb dX9_find_21 (by decide) (fun c4 => ?_) (fun c4 => ?_)
      · refine lv_iinc (v := nI (i + 1)) (lv' := [(2, .int (nI (i + 1))), (0, .ref h), (1, .ref q)]) hx hb dX9_find_40 hl (k := 2) rfl (by rw [← nI_1]; rfl) (by decide) rfl (fun ls hl => ?_)
        refine lv_goto (tgt := 2) hx hb dX9_find_43 (by decide) ?_
        exact ih (i + 1) ls (by omega) (fun j hj rj hrj => by
          rcases Nat.lt_succ_iff_lt_or_eq.mp hj with h1 | rfl
          · exact hne j h1 rj hrj
          · rw [hrow] at hrj
            cases hrj
            exact fun e => c4 (by rw [(Prod.mk.inj e).1])) (lv_sub hl [1, 2, 0] rfl)
      · refine lv_aload_n hx hb dX9_find_24 rfl (lv_at hl 0 rfl) ?_
        refine n_get hC hb hP inGX9 0 rfl rfl 9 (by decide) rfl (gw_t (tb3 (List.mem_of_getElem? (i := 211) rfl)) rfl) rfl dX9_find_25 ?_
        refine lv_iload_n hx hb dX9_find_28 rfl (lv_at hl 2 rfl) ?_
        refine n_aald (q0 := 1) hC hb hP rfl (vp_in_nI (by omega) (by decide)) (r := a0) (by rw [nI_clamp (by omega)]; exact hfg) dX9_find_29 ?_
        refine lv_iconst (v := 1) hx hb dX9_find_30 (by decide) ?_
        refine va_iald hx hb hC.2.2.2.1 hP (i + 2) 0 (wk_rowT hrow) rfl v_1 dX9_find_31 ?_
        refine lv_topi (fun x5 ex5 => ?_)
        have ex5 : x5 = nI y0 := ex5.trans (rfl)
        subst ex5
        refine lv_aload_n hx hb dX9_find_32 rfl (lv_at hl 1 rfl) ?_
        refine lv_iconst (v := 1) hx hb dX9_find_33 (by decide) ?_
        refine va_iald hx hb hC.2.2.2.1 hP (rs.length + 2) 0 wk_last rfl v_1 dX9_find_34 ?_
        refine lv_topi (fun x6 ex6 => ?_)
        have ex6 : x6 = nI y := ex6.trans (rfl)
        subst ex6
        refine lv_icmp_ne (tgt := 40) hx hb dX9_find_35 (by decide) (fun c7 => ?_) (fun c7 => ?_)
        · refine lv_iinc (v := nI (i + 1)) (lv' := [(2, .int (nI (i + 1))), (0, .ref h), (1, .ref q)]) hx hb dX9_find_40 hl (k := 2) rfl (by rw [← nI_1]; rfl) (by decide) rfl (fun ls hl => ?_)
          refine lv_goto (tgt := 2) hx hb dX9_find_43 (by decide) ?_
          exact ih (i + 1) ls (by omega) (fun j hj rj hrj => by
            rcases Nat.lt_succ_iff_lt_or_eq.mp hj with h1 | rfl
            · exact hne j h1 rj hrj
            · rw [hrow] at hrj
              cases hrj
              exact fun e => c7 (by rw [(Prod.mk.inj e).2])) (lv_sub hl [1, 2, 0] rfl)
        · refine lv_iload_n hx hb dX9_find_38 rfl (lv_at hl 2 rfl) ?_
          have hP := va_P_pre hP
          have hD := va_D_pre hD
          exact g_iret ((fg, rs)) hF rfl (⟨hw, fun _ _ h => h⟩) hP hD hS dX9_find_39 (Nat.le_of_ble_eq_true rfl) (Nat.le_of_ble_eq_true rfl)
  exact loop rs.length 0 ls (by omega) (fun j hj => absurd hj (Nat.not_lt_zero _)) (lv_sub hl [1, 2, 0] rfl)
