/-! (by wip/p32/wk.py) -/
abbrev rn_X9_target : Room := { frames := 1, cells := 1, slots := 2, locals := 60 }
set_option maxHeartbeats 4000000 in
set_option maxRecDepth 100000 in
theorem c_X9_target {l : Launch} {D : va_G} {Y : CYs} {cx kx h g n0 bk jp sx a0 x y : Nat} {v : Nat → Int32} {fg : Nat → Option Nat} {rs : List (Nat × Nat × Nat)} (hv : WKv n0 bk jp v) (hw : WKi n0 fg rs) (hrow : rs[sx]? = some (a0, x, y)) (hc3 : cx < 3) (hen : (cx = 0 → x < n0) ∧ (cx = 1 → 0 < y) ∧ (cx = 2 → jp ≤ x)) (sz : Nat) : Met l yX9_target (Cond.code yX9_target cX9_target 6 (some (.array .int)) :: gW) rn_X9_target (PcE XN (wkW Y h g v fg rs) Y D sz [.ref h, .int (nI sx), .int (nI cx), .int (nI kx)]) (GR (S := Nat × Nat) (fun u _ => u.1 ≤ n0 ∧ u.2 ≤ 3) (fun u r => (h, .inr (11, wkO v g rs.length)) :: (g, .inl (Y.2.2.1.2, 100, .inr (.inr (.inr (.inr fg))))) :: (rwW Y rs ++ [rwC Y (r, u.1, u.2)])) Y D (va_A (wkW Y h g v fg rs) sz)) 1 2 (va_A (wkW Y h g v fg rs) sz) := by
  refine Met_ofE (Qc := GR (S := Nat × Nat) (fun u _ => u.1 ≤ n0 ∧ u.2 ≤ 3) (fun u r => (h, .inr (11, wkO v g rs.length)) :: (g, .inl (Y.2.2.1.2, 100, .inr (.inr (.inr (.inr fg))))) :: (rwW Y rs ++ [rwC Y (r, u.1, u.2)])) Y D) (by decide) (Nat.le_of_ble_eq_true rfl) (fun p e s m args below meth c A hF hX hin hP hD hS ls hl => ?_) sz
  obtain ⟨hC, hb, hml, hr, hlk, hSW, hA⟩ := id hF
  have hx := hC.1
  have hl : lv_has ls 6 [(0, .ref h), (1, .int (nI sx)), (2, .int (nI cx)), (3, .int (nI kx))] := hl
  have hlen := WKi_len hv.2.2.2.1 hw
  have hs := (List.getElem?_eq_some_iff.mp hrow).1
  have hfg : fg sx = some a0 := (hw.1 _ _ hrow).1
  have hxn : x ≤ n0 := (hw.1 _ _ hrow).2.1
  have hy3 : y ≤ 3 := (hw.1 _ _ hrow).2.2
  obtain ⟨v0, v4, v8, b1, b2, b3⟩ := id hv
  refine lv_aload_n hx hb dX9_target_0 rfl (lv_at hl 0 rfl) ?_
  refine n_get hC hb hP inGX9 0 rfl rfl 9 (by decide) rfl (gw_t (tb3 (List.mem_of_getElem? (i := 211) rfl)) rfl) rfl dX9_target_1 ?_
  refine lv_iload_n hx hb dX9_target_4 rfl (lv_at hl 1 rfl) ?_
  refine n_aald (q0 := 1) hC hb hP rfl (vp_in_nI (by omega) (by decide)) (r := a0) (by rw [nI_clamp (by omega)]; exact hfg) dX9_target_5 ?_
  refine lv_iconst (v := 0) hx hb dX9_target_6 (by decide) ?_
  refine va_iald hx hb hC.2.2.2.1 hP (sx + 2) 0 (wk_row hrow) rfl v_0 dX9_target_7 ?_
  refine lv_topi (fun x1 ex1 => ?_)
  have ex1 : x1 = nI x := ex1.trans (rfl)
  subst ex1
  refine lv_istore (lv' := [(4, .int (nI x)), (0, .ref h), (1, .int (nI sx)), (2, .int (nI cx)), (3, .int (nI kx))]) hx hb dX9_target_8 hl (by decide) rfl (fun ls hl => ?_)
  refine lv_aload_n hx hb dX9_target_10 rfl (lv_at hl 1 rfl) ?_
  refine n_get hC hb hP inGX9 0 rfl rfl 9 (by decide) rfl (gw_t (tb3 (List.mem_of_getElem? (i := 211) rfl)) rfl) rfl dX9_target_11 ?_
  refine lv_iload_n hx hb dX9_target_14 rfl (lv_at hl 2 rfl) ?_
  refine n_aald (q0 := 1) hC hb hP rfl (vp_in_nI (by omega) (by decide)) (r := a0) (by rw [nI_clamp (by omega)]; exact hfg) dX9_target_15 ?_
  refine lv_iconst (v := 1) hx hb dX9_target_16 (by decide) ?_
  refine va_iald hx hb hC.2.2.2.1 hP (sx + 2) 0 (wk_row hrow) rfl v_1 dX9_target_17 ?_
  refine lv_topi (fun x2 ex2 => ?_)
  have ex2 : x2 = nI y := ex2.trans (rfl)
  subst ex2
  refine lv_istore (lv' := [(5, .int (nI y)), (4, .int (nI x)), (0, .ref h), (1, .int (nI sx)), (2, .int (nI cx)), (3, .int (nI kx))]) hx hb dX9_target_18 hl (by decide) rfl (fun ls hl => ?_)
  refine lv_iload_n hx hb dX9_target_20 rfl (lv_at hl 4 rfl) ?_
  refine lv_iconst (v := 1) hx hb dX9_target_21 (by decide) ?_
  refine lv_icmp_ne (tgt := 41) hx hb dX9_target_22 (by decide) (fun c3 => ?_) (fun c3 => ?_)
  · have k1 : ¬ cx = 1 := fun h => c3 (by rw [h]; rfl)
    refine lv_iload_n hx hb dX9_target_41 rfl (lv_at hl 4 rfl) ?_
    refine lv_iconst (v := 2) hx hb dX9_target_42 (by decide) ?_
    refine lv_icmp_ne (tgt := 86) hx hb dX9_target_43 (by decide) (fun c4 => ?_) (fun c4 => ?_)
    · have k2 : ¬ cx = 2 := fun h => c4 (by rw [h]; rfl)
      have k0 : cx = 0 := by omega
      have hxx := hen.1 k0
      refine lv_iload_n hx hb dX9_target_86 rfl (lv_at hl 5 rfl) ?_
      refine lv_if_ne (tgt := 120) hx hb dX9_target_87 (by decide) (fun c5 => ?_) (fun c5 => ?_)
      · refine lv_iload_n hx hb dX9_target_120 rfl (lv_at hl 5 rfl) ?_
        refine lv_iconst (v := 1) hx hb dX9_target_121 (by decide) ?_
        refine lv_icmp_ne (tgt := 159) hx hb dX9_target_122 (by decide) (fun c6 => ?_) (fun c6 => ?_)
        · refine lv_iconst (v := 2) hx hb dX9_target_159 (by decide) ?_
          refine n_arrI (N' := 2) hC hb hP hD hS hA (by decide) (by decide) (Nat.le_of_ble_eq_true rfl) (Nat.le_of_ble_eq_true rfl) (Nat.le_of_ble_eq_true rfl) dX9_target_160 (fun q H hP hD hS => ?_)
          have hP : va_P D vwCl ((h, .inr (11, [.int (v 0), .int (v 1), .int (v 2), .int (v 3), .int (v 4), .int (v 5), .int (v 6), .int (v 7), .int (v 8), .ref g, .int (nI rs.length)])) :: (g, .inl (Y.2.2.1.2, 100, .inr (.inr (.inr (.inr fg))))) :: (rwW Y rs ++ [(q, .inl (Y.1, 2, .inl (fun _ => 0)))])) H := hP
          have hD : va_D A ((h, .inr (11, [.int (v 0), .int (v 1), .int (v 2), .int (v 3), .int (v 4), .int (v 5), .int (v 6), .int (v 7), .int (v 8), .ref g, .int (nI rs.length)])) :: (g, .inl (Y.2.2.1.2, 100, .inr (.inr (.inr (.inr fg))))) :: (rwW Y rs ++ [(q, .inl (Y.1, 2, .inl (fun _ => 0)))])) := hD
          refine lv_dup hx hb dX9_target_162 rfl ?_
          refine lv_iconst (v := 0) hx hb dX9_target_163 (by decide) ?_
          refine lv_iload hx hb dX9_target_164 (lv_at hl 1 rfl) ?_
          refine va_iast hx hb hC.2.2.2.1 hP hD hS (rs.length + 2) 0 wk_last rfl v_0 dX9_target_166 (fun H locs hP hD hS => ?_)
          rw [wk_set] at hP hD
          have hP : va_P D vwCl ((h, .inr (11, [.int (v 0), .int (v 1), .int (v 2), .int (v 3), .int (v 4), .int (v 5), .int (v 6), .int (v 7), .int (v 8), .ref g, .int (nI rs.length)])) :: (g, .inl (Y.2.2.1.2, 100, .inr (.inr (.inr (.inr fg))))) :: (rwW Y rs ++ [(q, .inl (Y.1, 2, .inl (upd (fun _ => 0) 0 (nI x))))])) H := hP
          have hD : va_D A ((h, .inr (11, [.int (v 0), .int (v 1), .int (v 2), .int (v 3), .int (v 4), .int (v 5), .int (v 6), .int (v 7), .int (v 8), .ref g, .int (nI rs.length)])) :: (g, .inl (Y.2.2.1.2, 100, .inr (.inr (.inr (.inr fg))))) :: (rwW Y rs ++ [(q, .inl (Y.1, 2, .inl (upd (fun _ => 0) 0 (nI x))))])) := hD
          refine lv_dup hx hb dX9_target_167 rfl ?_
          refine lv_iconst (v := 1) hx hb dX9_target_168 (by decide) ?_
          refine lv_iload hx hb dX9_target_169 (lv_at hl 0 rfl) ?_
          refine va_iast hx hb hC.2.2.2.1 hP hD hS (rs.length + 2) 0 wk_last rfl v_1 dX9_target_171 (fun H locs hP hD hS => ?_)
          rw [wk_set] at hP hD
          have hP : va_P D vwCl ((h, .inr (11, [.int (v 0), .int (v 1), .int (v 2), .int (v 3), .int (v 4), .int (v 5), .int (v 6), .int (v 7), .int (v 8), .ref g, .int (nI rs.length)])) :: (g, .inl (Y.2.2.1.2, 100, .inr (.inr (.inr (.inr fg))))) :: (rwW Y rs ++ [(q, .inl (Y.1, 2, .inl (upd (upd (fun _ => 0) 0 (nI x)) 1 (nI y))))])) H := hP
          have hD : va_D A ((h, .inr (11, [.int (v 0), .int (v 1), .int (v 2), .int (v 3), .int (v 4), .int (v 5), .int (v 6), .int (v 7), .int (v 8), .ref g, .int (nI rs.length)])) :: (g, .inl (Y.2.2.1.2, 100, .inr (.inr (.inr (.inr fg))))) :: (rwW Y rs ++ [(q, .inl (Y.1, 2, .inl (upd (upd (fun _ => 0) 0 (nI x)) 1 (nI y))))])) := hD
          exact g_aret (x, y) q hF (Or.inr ⟨_, rfl⟩) ⟨hxn, hy3⟩ hP hD hS dX9_target_172 (Nat.le_of_ble_eq_true rfl) (Nat.le_of_ble_eq_true rfl)
        · refine lv_iconst (v := 2) hx hb dX9_target_125 (by decide) ?_
          refine n_arrI (N' := 2) hC hb hP hD hS hA (by decide) (by decide) (Nat.le_of_ble_eq_true rfl) (Nat.le_of_ble_eq_true rfl) (Nat.le_of_ble_eq_true rfl) dX9_target_126 (fun q H hP hD hS => ?_)
          have hP : va_P D vwCl ((h, .inr (11, [.int (v 0), .int (v 1), .int (v 2), .int (v 3), .int (v 4), .int (v 5), .int (v 6), .int (v 7), .int (v 8), .ref g, .int (nI rs.length)])) :: (g, .inl (Y.2.2.1.2, 100, .inr (.inr (.inr (.inr fg))))) :: (rwW Y rs ++ [(q, .inl (Y.1, 2, .inl (fun _ => 0)))])) H := hP
          have hD : va_D A ((h, .inr (11, [.int (v 0), .int (v 1), .int (v 2), .int (v 3), .int (v 4), .int (v 5), .int (v 6), .int (v 7), .int (v 8), .ref g, .int (nI rs.length)])) :: (g, .inl (Y.2.2.1.2, 100, .inr (.inr (.inr (.inr fg))))) :: (rwW Y rs ++ [(q, .inl (Y.1, 2, .inl (fun _ => 0)))])) := hD
          refine lv_dup hx hb dX9_target_128 rfl ?_
          refine lv_iconst (v := 0) hx hb dX9_target_129 (by decide) ?_
          refine lv_iload hx hb dX9_target_130 (lv_at hl 1 rfl) ?_
          refine lv_aload_n hx hb dX9_target_132 rfl (lv_at hl 2 rfl) ?_
          refine n_get hC hb hP inGX9 0 rfl rfl 4 (by decide) rfl (gw_t (tb3 (List.mem_of_getElem? (i := 206) rfl)) rfl) rfl dX9_target_133 ?_
          refine lv_topi (fun x7 ex7 => ?_)
          have ex7 : x7 = nI bk := ex7.trans (v4)
          subst ex7
          refine lv_icmp_le (tgt := 149) hx hb dX9_target_136 (by decide) (fun c8 => ?_) (fun c8 => ?_)
          · refine lv_iconst (v := 0) hx hb dX9_target_149 (by decide) ?_
            refine lv_topi (fun x9 ex9 => ?_)
            have ex9 : x9 = nI 0 := ex9.trans (rfl)
            subst ex9
            refine va_iast hx hb hC.2.2.2.1 hP hD hS (rs.length + 2) 0 wk_last rfl v_0 dX9_target_150 (fun H locs hP hD hS => ?_)
            rw [wk_set] at hP hD
            have hP : va_P D vwCl ((h, .inr (11, [.int (v 0), .int (v 1), .int (v 2), .int (v 3), .int (v 4), .int (v 5), .int (v 6), .int (v 7), .int (v 8), .ref g, .int (nI rs.length)])) :: (g, .inl (Y.2.2.1.2, 100, .inr (.inr (.inr (.inr fg))))) :: (rwW Y rs ++ [(q, .inl (Y.1, 2, .inl (upd (fun _ => 0) 0 (nI 0))))])) H := hP
            have hD : va_D A ((h, .inr (11, [.int (v 0), .int (v 1), .int (v 2), .int (v 3), .int (v 4), .int (v 5), .int (v 6), .int (v 7), .int (v 8), .ref g, .int (nI rs.length)])) :: (g, .inl (Y.2.2.1.2, 100, .inr (.inr (.inr (.inr fg))))) :: (rwW Y rs ++ [(q, .inl (Y.1, 2, .inl (upd (fun _ => 0) 0 (nI 0))))])) := hD
            refine lv_dup hx hb dX9_target_151 rfl ?_
            refine lv_iconst (v := 1) hx hb dX9_target_152 (by decide) ?_
            refine lv_iload hx hb dX9_target_153 (lv_at hl 0 rfl) ?_
            refine va_iast hx hb hC.2.2.2.1 hP hD hS (rs.length + 2) 0 wk_last rfl v_1 dX9_target_155 (fun H locs hP hD hS => ?_)
            rw [wk_set] at hP hD
            have hP : va_P D vwCl ((h, .inr (11, [.int (v 0), .int (v 1), .int (v 2), .int (v 3), .int (v 4), .int (v 5), .int (v 6), .int (v 7), .int (v 8), .ref g, .int (nI rs.length)])) :: (g, .inl (Y.2.2.1.2, 100, .inr (.inr (.inr (.inr fg))))) :: (rwW Y rs ++ [(q, .inl (Y.1, 2, .inl (upd (upd (fun _ => 0) 0 (nI 0)) 1 (nI y))))])) H := hP
            have hD : va_D A ((h, .inr (11, [.int (v 0), .int (v 1), .int (v 2), .int (v 3), .int (v 4), .int (v 5), .int (v 6), .int (v 7), .int (v 8), .ref g, .int (nI rs.length)])) :: (g, .inl (Y.2.2.1.2, 100, .inr (.inr (.inr (.inr fg))))) :: (rwW Y rs ++ [(q, .inl (Y.1, 2, .inl (upd (upd (fun _ => 0) 0 (nI 0)) 1 (nI y))))])) := hD
            refine lv_goto (tgt := 172) hx hb dX9_target_156 (by decide) ?_
            exact g_aret (0, y) q hF (Or.inr ⟨_, rfl⟩) ⟨Nat.zero_le _, hy3⟩ hP hD hS dX9_target_172 (Nat.le_of_ble_eq_true rfl) (Nat.le_of_ble_eq_true rfl)
          · have k3 : bk ≤ x := Nat.le_of_lt (Nat.lt_of_not_le (fun h => c8 (nI_le h (by omega))))
            refine lv_iload hx hb dX9_target_139 (lv_at hl 1 rfl) ?_
            refine lv_aload_n hx hb dX9_target_141 rfl (lv_at hl 2 rfl) ?_
            refine n_get hC hb hP inGX9 0 rfl rfl 4 (by decide) rfl (gw_t (tb3 (List.mem_of_getElem? (i := 206) rfl)) rfl) rfl dX9_target_142 ?_
            refine lv_topi (fun x9 ex9 => ?_)
            have ex9 : x9 = nI bk := ex9.trans (v4)
            subst ex9
            refine lv_isub hx hb dX9_target_145 ?_
            refine lv_topi (fun x10 ex10 => ?_)
            have ex10 : x10 = nI (x - bk) := ex10.trans (pk_sub k3)
            subst ex10
            refine lv_goto (tgt := 150) hx hb dX9_target_146 (by decide) ?_
            refine va_iast hx hb hC.2.2.2.1 hP hD hS (rs.length + 2) 0 wk_last rfl v_0 dX9_target_150 (fun H locs hP hD hS => ?_)
            rw [wk_set] at hP hD
            have hP : va_P D vwCl ((h, .inr (11, [.int (v 0), .int (v 1), .int (v 2), .int (v 3), .int (v 4), .int (v 5), .int (v 6), .int (v 7), .int (v 8), .ref g, .int (nI rs.length)])) :: (g, .inl (Y.2.2.1.2, 100, .inr (.inr (.inr (.inr fg))))) :: (rwW Y rs ++ [(q, .inl (Y.1, 2, .inl (upd (fun _ => 0) 0 (nI (x - bk)))))])) H := hP
            have hD : va_D A ((h, .inr (11, [.int (v 0), .int (v 1), .int (v 2), .int (v 3), .int (v 4), .int (v 5), .int (v 6), .int (v 7), .int (v 8), .ref g, .int (nI rs.length)])) :: (g, .inl (Y.2.2.1.2, 100, .inr (.inr (.inr (.inr fg))))) :: (rwW Y rs ++ [(q, .inl (Y.1, 2, .inl (upd (fun _ => 0) 0 (nI (x - bk)))))])) := hD
            refine lv_dup hx hb dX9_target_151 rfl ?_
            refine lv_iconst (v := 1) hx hb dX9_target_152 (by decide) ?_
            refine lv_iload hx hb dX9_target_153 (lv_at hl 0 rfl) ?_
            refine va_iast hx hb hC.2.2.2.1 hP hD hS (rs.length + 2) 0 wk_last rfl v_1 dX9_target_155 (fun H locs hP hD hS => ?_)
            rw [wk_set] at hP hD
            have hP : va_P D vwCl ((h, .inr (11, [.int (v 0), .int (v 1), .int (v 2), .int (v 3), .int (v 4), .int (v 5), .int (v 6), .int (v 7), .int (v 8), .ref g, .int (nI rs.length)])) :: (g, .inl (Y.2.2.1.2, 100, .inr (.inr (.inr (.inr fg))))) :: (rwW Y rs ++ [(q, .inl (Y.1, 2, .inl (upd (upd (fun _ => 0) 0 (nI (x - bk))) 1 (nI y))))])) H := hP
            have hD : va_D A ((h, .inr (11, [.int (v 0), .int (v 1), .int (v 2), .int (v 3), .int (v 4), .int (v 5), .int (v 6), .int (v 7), .int (v 8), .ref g, .int (nI rs.length)])) :: (g, .inl (Y.2.2.1.2, 100, .inr (.inr (.inr (.inr fg))))) :: (rwW Y rs ++ [(q, .inl (Y.1, 2, .inl (upd (upd (fun _ => 0) 0 (nI (x - bk))) 1 (nI y))))])) := hD
            refine lv_goto (tgt := 172) hx hb dX9_target_156 (by decide) ?_
            exact g_aret (x - bk, y) q hF (Or.inr ⟨_, rfl⟩) ⟨Nat.le_trans (Nat.sub_le _ _) hxn, hy3⟩ hP hD hS dX9_target_172 (Nat.le_of_ble_eq_true rfl) (Nat.le_of_ble_eq_true rfl)
      · refine lv_iconst (v := 2) hx hb dX9_target_90 (by decide) ?_
        refine n_arrI (N' := 2) hC hb hP hD hS hA (by decide) (by decide) (Nat.le_of_ble_eq_true rfl) (Nat.le_of_ble_eq_true rfl) (Nat.le_of_ble_eq_true rfl) dX9_target_91 (fun q H hP hD hS => ?_)
        have hP : va_P D vwCl ((h, .inr (11, [.int (v 0), .int (v 1), .int (v 2), .int (v 3), .int (v 4), .int (v 5), .int (v 6), .int (v 7), .int (v 8), .ref g, .int (nI rs.length)])) :: (g, .inl (Y.2.2.1.2, 100, .inr (.inr (.inr (.inr fg))))) :: (rwW Y rs ++ [(q, .inl (Y.1, 2, .inl (fun _ => 0)))])) H := hP
        have hD : va_D A ((h, .inr (11, [.int (v 0), .int (v 1), .int (v 2), .int (v 3), .int (v 4), .int (v 5), .int (v 6), .int (v 7), .int (v 8), .ref g, .int (nI rs.length)])) :: (g, .inl (Y.2.2.1.2, 100, .inr (.inr (.inr (.inr fg))))) :: (rwW Y rs ++ [(q, .inl (Y.1, 2, .inl (fun _ => 0)))])) := hD
        refine lv_dup hx hb dX9_target_93 rfl ?_
        refine lv_iconst (v := 0) hx hb dX9_target_94 (by decide) ?_
        refine lv_iload hx hb dX9_target_95 (lv_at hl 1 rfl) ?_
        refine lv_iconst (v := 1) hx hb dX9_target_97 (by decide) ?_
        refine lv_iadd hx hb dX9_target_98 ?_
        refine lv_topi (fun x6 ex6 => ?_)
        have ex6 : x6 = nI (x + 1) := ex6.trans (nI_1 _)
        subst ex6
        refine va_iast hx hb hC.2.2.2.1 hP hD hS (rs.length + 2) 0 wk_last rfl v_0 dX9_target_99 (fun H locs hP hD hS => ?_)
        rw [wk_set] at hP hD
        have hP : va_P D vwCl ((h, .inr (11, [.int (v 0), .int (v 1), .int (v 2), .int (v 3), .int (v 4), .int (v 5), .int (v 6), .int (v 7), .int (v 8), .ref g, .int (nI rs.length)])) :: (g, .inl (Y.2.2.1.2, 100, .inr (.inr (.inr (.inr fg))))) :: (rwW Y rs ++ [(q, .inl (Y.1, 2, .inl (upd (fun _ => 0) 0 (nI (x + 1)))))])) H := hP
        have hD : va_D A ((h, .inr (11, [.int (v 0), .int (v 1), .int (v 2), .int (v 3), .int (v 4), .int (v 5), .int (v 6), .int (v 7), .int (v 8), .ref g, .int (nI rs.length)])) :: (g, .inl (Y.2.2.1.2, 100, .inr (.inr (.inr (.inr fg))))) :: (rwW Y rs ++ [(q, .inl (Y.1, 2, .inl (upd (fun _ => 0) 0 (nI (x + 1)))))])) := hD
        refine lv_dup hx hb dX9_target_100 rfl ?_
        refine lv_iconst (v := 1) hx hb dX9_target_101 (by decide) ?_
        refine lv_iload hx hb dX9_target_102 (lv_at hl 0 rfl) ?_
        refine lv_iconst (v := 3) hx hb dX9_target_104 (by decide) ?_
        refine lv_icmp_ge (tgt := 115) hx hb dX9_target_105 (by decide) (fun c7 => ?_) (fun c7 => ?_)
        · refine lv_iconst (v := 3) hx hb dX9_target_115 (by decide) ?_
          refine lv_topi (fun x8 ex8 => ?_)
          have ex8 : x8 = nI 3 := ex8.trans (rfl)
          subst ex8
          refine va_iast hx hb hC.2.2.2.1 hP hD hS (rs.length + 2) 0 wk_last rfl v_1 dX9_target_116 (fun H locs hP hD hS => ?_)
          rw [wk_set] at hP hD
          have hP : va_P D vwCl ((h, .inr (11, [.int (v 0), .int (v 1), .int (v 2), .int (v 3), .int (v 4), .int (v 5), .int (v 6), .int (v 7), .int (v 8), .ref g, .int (nI rs.length)])) :: (g, .inl (Y.2.2.1.2, 100, .inr (.inr (.inr (.inr fg))))) :: (rwW Y rs ++ [(q, .inl (Y.1, 2, .inl (upd (upd (fun _ => 0) 0 (nI (x + 1))) 1 (nI 3))))])) H := hP
          have hD : va_D A ((h, .inr (11, [.int (v 0), .int (v 1), .int (v 2), .int (v 3), .int (v 4), .int (v 5), .int (v 6), .int (v 7), .int (v 8), .ref g, .int (nI rs.length)])) :: (g, .inl (Y.2.2.1.2, 100, .inr (.inr (.inr (.inr fg))))) :: (rwW Y rs ++ [(q, .inl (Y.1, 2, .inl (upd (upd (fun _ => 0) 0 (nI (x + 1))) 1 (nI 3))))])) := hD
          refine lv_goto (tgt := 172) hx hb dX9_target_117 (by decide) ?_
          exact g_aret (x + 1, 3) q hF (Or.inr ⟨_, rfl⟩) ⟨hxx, Nat.le_refl _⟩ hP hD hS dX9_target_172 (Nat.le_of_ble_eq_true rfl) (Nat.le_of_ble_eq_true rfl)
        · have k3 : y < 3 := Nat.lt_of_not_le (fun h => c7 (show (3 : Int32) ≤ nI y from nI_le (a := 3) h (by omega)))
          refine lv_iload hx hb dX9_target_108 (lv_at hl 0 rfl) ?_
          refine lv_iconst (v := 1) hx hb dX9_target_110 (by decide) ?_
          refine lv_iadd hx hb dX9_target_111 ?_
          refine lv_topi (fun x8 ex8 => ?_)
          have ex8 : x8 = nI (y + 1) := ex8.trans (nI_1 _)
          subst ex8
          refine lv_goto (tgt := 116) hx hb dX9_target_112 (by decide) ?_
          refine va_iast hx hb hC.2.2.2.1 hP hD hS (rs.length + 2) 0 wk_last rfl v_1 dX9_target_116 (fun H locs hP hD hS => ?_)
          rw [wk_set] at hP hD
          have hP : va_P D vwCl ((h, .inr (11, [.int (v 0), .int (v 1), .int (v 2), .int (v 3), .int (v 4), .int (v 5), .int (v 6), .int (v 7), .int (v 8), .ref g, .int (nI rs.length)])) :: (g, .inl (Y.2.2.1.2, 100, .inr (.inr (.inr (.inr fg))))) :: (rwW Y rs ++ [(q, .inl (Y.1, 2, .inl (upd (upd (fun _ => 0) 0 (nI (x + 1))) 1 (nI (y + 1)))))])) H := hP
          have hD : va_D A ((h, .inr (11, [.int (v 0), .int (v 1), .int (v 2), .int (v 3), .int (v 4), .int (v 5), .int (v 6), .int (v 7), .int (v 8), .ref g, .int (nI rs.length)])) :: (g, .inl (Y.2.2.1.2, 100, .inr (.inr (.inr (.inr fg))))) :: (rwW Y rs ++ [(q, .inl (Y.1, 2, .inl (upd (upd (fun _ => 0) 0 (nI (x + 1))) 1 (nI (y + 1)))))])) := hD
          refine lv_goto (tgt := 172) hx hb dX9_target_117 (by decide) ?_
          exact g_aret (x + 1, y + 1) q hF (Or.inr ⟨_, rfl⟩) ⟨hxx, k3⟩ hP hD hS dX9_target_172 (Nat.le_of_ble_eq_true rfl) (Nat.le_of_ble_eq_true rfl)
    · have k2 : cx = 2 := (nI_eq (b := 2) (by omega) (by decide)).mp c4
      have hjx := hen.2.2 k2
      refine lv_iload_n hx hb dX9_target_46 rfl (lv_at hl 5 rfl) ?_
      refine lv_if_ne (tgt := 73) hx hb dX9_target_47 (by decide) (fun c5 => ?_) (fun c5 => ?_)
      · refine lv_iconst (v := 2) hx hb dX9_target_73 (by decide) ?_
        refine n_arrI (N' := 2) hC hb hP hD hS hA (by decide) (by decide) (Nat.le_of_ble_eq_true rfl) (Nat.le_of_ble_eq_true rfl) (Nat.le_of_ble_eq_true rfl) dX9_target_74 (fun q H hP hD hS => ?_)
        have hP : va_P D vwCl ((h, .inr (11, [.int (v 0), .int (v 1), .int (v 2), .int (v 3), .int (v 4), .int (v 5), .int (v 6), .int (v 7), .int (v 8), .ref g, .int (nI rs.length)])) :: (g, .inl (Y.2.2.1.2, 100, .inr (.inr (.inr (.inr fg))))) :: (rwW Y rs ++ [(q, .inl (Y.1, 2, .inl (fun _ => 0)))])) H := hP
        have hD : va_D A ((h, .inr (11, [.int (v 0), .int (v 1), .int (v 2), .int (v 3), .int (v 4), .int (v 5), .int (v 6), .int (v 7), .int (v 8), .ref g, .int (nI rs.length)])) :: (g, .inl (Y.2.2.1.2, 100, .inr (.inr (.inr (.inr fg))))) :: (rwW Y rs ++ [(q, .inl (Y.1, 2, .inl (fun _ => 0)))])) := hD
        refine lv_dup hx hb dX9_target_76 rfl ?_
        refine lv_iconst (v := 0) hx hb dX9_target_77 (by decide) ?_
        refine lv_iload hx hb dX9_target_78 (lv_at hl 1 rfl) ?_
        refine va_iast hx hb hC.2.2.2.1 hP hD hS (rs.length + 2) 0 wk_last rfl v_0 dX9_target_80 (fun H locs hP hD hS => ?_)
        rw [wk_set] at hP hD
        have hP : va_P D vwCl ((h, .inr (11, [.int (v 0), .int (v 1), .int (v 2), .int (v 3), .int (v 4), .int (v 5), .int (v 6), .int (v 7), .int (v 8), .ref g, .int (nI rs.length)])) :: (g, .inl (Y.2.2.1.2, 100, .inr (.inr (.inr (.inr fg))))) :: (rwW Y rs ++ [(q, .inl (Y.1, 2, .inl (upd (fun _ => 0) 0 (nI x))))])) H := hP
        have hD : va_D A ((h, .inr (11, [.int (v 0), .int (v 1), .int (v 2), .int (v 3), .int (v 4), .int (v 5), .int (v 6), .int (v 7), .int (v 8), .ref g, .int (nI rs.length)])) :: (g, .inl (Y.2.2.1.2, 100, .inr (.inr (.inr (.inr fg))))) :: (rwW Y rs ++ [(q, .inl (Y.1, 2, .inl (upd (fun _ => 0) 0 (nI x))))])) := hD
        refine lv_dup hx hb dX9_target_81 rfl ?_
        refine lv_iconst (v := 1) hx hb dX9_target_82 (by decide) ?_
        refine lv_iconst (v := 3) hx hb dX9_target_83 (by decide) ?_
        refine lv_topi (fun x6 ex6 => ?_)
        have ex6 : x6 = nI 3 := ex6.trans (rfl)
        subst ex6
        refine va_iast hx hb hC.2.2.2.1 hP hD hS (rs.length + 2) 0 wk_last rfl v_1 dX9_target_84 (fun H locs hP hD hS => ?_)
        rw [wk_set] at hP hD
        have hP : va_P D vwCl ((h, .inr (11, [.int (v 0), .int (v 1), .int (v 2), .int (v 3), .int (v 4), .int (v 5), .int (v 6), .int (v 7), .int (v 8), .ref g, .int (nI rs.length)])) :: (g, .inl (Y.2.2.1.2, 100, .inr (.inr (.inr (.inr fg))))) :: (rwW Y rs ++ [(q, .inl (Y.1, 2, .inl (upd (upd (fun _ => 0) 0 (nI x)) 1 (nI 3))))])) H := hP
        have hD : va_D A ((h, .inr (11, [.int (v 0), .int (v 1), .int (v 2), .int (v 3), .int (v 4), .int (v 5), .int (v 6), .int (v 7), .int (v 8), .ref g, .int (nI rs.length)])) :: (g, .inl (Y.2.2.1.2, 100, .inr (.inr (.inr (.inr fg))))) :: (rwW Y rs ++ [(q, .inl (Y.1, 2, .inl (upd (upd (fun _ => 0) 0 (nI x)) 1 (nI 3))))])) := hD
        exact g_aret (x, 3) q hF (Or.inr ⟨_, rfl⟩) ⟨hxn, Nat.le_refl _⟩ hP hD hS dX9_target_85 (Nat.le_of_ble_eq_true rfl) (Nat.le_of_ble_eq_true rfl)
      · refine lv_iconst (v := 2) hx hb dX9_target_50 (by decide) ?_
        refine n_arrI (N' := 2) hC hb hP hD hS hA (by decide) (by decide) (Nat.le_of_ble_eq_true rfl) (Nat.le_of_ble_eq_true rfl) (Nat.le_of_ble_eq_true rfl) dX9_target_51 (fun q H hP hD hS => ?_)
        have hP : va_P D vwCl ((h, .inr (11, [.int (v 0), .int (v 1), .int (v 2), .int (v 3), .int (v 4), .int (v 5), .int (v 6), .int (v 7), .int (v 8), .ref g, .int (nI rs.length)])) :: (g, .inl (Y.2.2.1.2, 100, .inr (.inr (.inr (.inr fg))))) :: (rwW Y rs ++ [(q, .inl (Y.1, 2, .inl (fun _ => 0)))])) H := hP
        have hD : va_D A ((h, .inr (11, [.int (v 0), .int (v 1), .int (v 2), .int (v 3), .int (v 4), .int (v 5), .int (v 6), .int (v 7), .int (v 8), .ref g, .int (nI rs.length)])) :: (g, .inl (Y.2.2.1.2, 100, .inr (.inr (.inr (.inr fg))))) :: (rwW Y rs ++ [(q, .inl (Y.1, 2, .inl (fun _ => 0)))])) := hD
        refine lv_dup hx hb dX9_target_53 rfl ?_
        refine lv_iconst (v := 0) hx hb dX9_target_54 (by decide) ?_
        refine lv_iload hx hb dX9_target_55 (lv_at hl 1 rfl) ?_
        refine lv_aload_n hx hb dX9_target_57 rfl (lv_at hl 2 rfl) ?_
        refine n_get hC hb hP inGX9 0 rfl rfl 8 (by decide) rfl (gw_t (tb3 (List.mem_of_getElem? (i := 210) rfl)) rfl) rfl dX9_target_58 ?_
        refine lv_topi (fun x6 ex6 => ?_)
        have ex6 : x6 = nI jp := ex6.trans (v8)
        subst ex6
        refine lv_isub hx hb dX9_target_61 ?_
        refine lv_topi (fun x7 ex7 => ?_)
        have ex7 : x7 = nI (x - jp) := ex7.trans (pk_sub hjx)
        subst ex7
        refine va_iast hx hb hC.2.2.2.1 hP hD hS (rs.length + 2) 0 wk_last rfl v_0 dX9_target_62 (fun H locs hP hD hS => ?_)
        rw [wk_set] at hP hD
        have hP : va_P D vwCl ((h, .inr (11, [.int (v 0), .int (v 1), .int (v 2), .int (v 3), .int (v 4), .int (v 5), .int (v 6), .int (v 7), .int (v 8), .ref g, .int (nI rs.length)])) :: (g, .inl (Y.2.2.1.2, 100, .inr (.inr (.inr (.inr fg))))) :: (rwW Y rs ++ [(q, .inl (Y.1, 2, .inl (upd (fun _ => 0) 0 (nI (x - jp)))))])) H := hP
        have hD : va_D A ((h, .inr (11, [.int (v 0), .int (v 1), .int (v 2), .int (v 3), .int (v 4), .int (v 5), .int (v 6), .int (v 7), .int (v 8), .ref g, .int (nI rs.length)])) :: (g, .inl (Y.2.2.1.2, 100, .inr (.inr (.inr (.inr fg))))) :: (rwW Y rs ++ [(q, .inl (Y.1, 2, .inl (upd (fun _ => 0) 0 (nI (x - jp)))))])) := hD
        refine lv_dup hx hb dX9_target_63 rfl ?_
        refine lv_iconst (v := 1) hx hb dX9_target_64 (by decide) ?_
        refine lv_iload hx hb dX9_target_65 (lv_at hl 1 rfl) ?_
        refine lv_iconst (v := 4) hx hb dX9_target_67 (by decide) ?_
        refine lv_irem hx hb dX9_target_68 (by decide) ?_
        refine lv_topi (fun x8 ex8 => ?_)
        have ex8 : x8 = nI (x % 4) := ex8.trans (rm4 _ (by omega))
        subst ex8
        refine va_iast hx hb hC.2.2.2.1 hP hD hS (rs.length + 2) 0 wk_last rfl v_1 dX9_target_69 (fun H locs hP hD hS => ?_)
        rw [wk_set] at hP hD
        have hP : va_P D vwCl ((h, .inr (11, [.int (v 0), .int (v 1), .int (v 2), .int (v 3), .int (v 4), .int (v 5), .int (v 6), .int (v 7), .int (v 8), .ref g, .int (nI rs.length)])) :: (g, .inl (Y.2.2.1.2, 100, .inr (.inr (.inr (.inr fg))))) :: (rwW Y rs ++ [(q, .inl (Y.1, 2, .inl (upd (upd (fun _ => 0) 0 (nI (x - jp))) 1 (nI (x % 4)))))])) H := hP
        have hD : va_D A ((h, .inr (11, [.int (v 0), .int (v 1), .int (v 2), .int (v 3), .int (v 4), .int (v 5), .int (v 6), .int (v 7), .int (v 8), .ref g, .int (nI rs.length)])) :: (g, .inl (Y.2.2.1.2, 100, .inr (.inr (.inr (.inr fg))))) :: (rwW Y rs ++ [(q, .inl (Y.1, 2, .inl (upd (upd (fun _ => 0) 0 (nI (x - jp))) 1 (nI (x % 4)))))])) := hD
        refine lv_goto (tgt := 85) hx hb dX9_target_70 (by decide) ?_
        exact g_aret (x - jp, x % 4) q hF (Or.inr ⟨_, rfl⟩) ⟨Nat.le_trans (Nat.sub_le _ _) hxn, Nat.le_of_lt_succ (Nat.mod_lt _ (by decide))⟩ hP hD hS dX9_target_85 (Nat.le_of_ble_eq_true rfl) (Nat.le_of_ble_eq_true rfl)
  · have k1 : cx = 1 := (nI_eq (b := 1) (by omega) (by decide)).mp c3
    have hyy := hen.2.1 k1
    refine lv_iconst (v := 2) hx hb dX9_target_25 (by decide) ?_
    refine n_arrI (N' := 2) hC hb hP hD hS hA (by decide) (by decide) (Nat.le_of_ble_eq_true rfl) (Nat.le_of_ble_eq_true rfl) (Nat.le_of_ble_eq_true rfl) dX9_target_26 (fun q H hP hD hS => ?_)
    have hP : va_P D vwCl ((h, .inr (11, [.int (v 0), .int (v 1), .int (v 2), .int (v 3), .int (v 4), .int (v 5), .int (v 6), .int (v 7), .int (v 8), .ref g, .int (nI rs.length)])) :: (g, .inl (Y.2.2.1.2, 100, .inr (.inr (.inr (.inr fg))))) :: (rwW Y rs ++ [(q, .inl (Y.1, 2, .inl (fun _ => 0)))])) H := hP
    have hD : va_D A ((h, .inr (11, [.int (v 0), .int (v 1), .int (v 2), .int (v 3), .int (v 4), .int (v 5), .int (v 6), .int (v 7), .int (v 8), .ref g, .int (nI rs.length)])) :: (g, .inl (Y.2.2.1.2, 100, .inr (.inr (.inr (.inr fg))))) :: (rwW Y rs ++ [(q, .inl (Y.1, 2, .inl (fun _ => 0)))])) := hD
    refine lv_dup hx hb dX9_target_28 rfl ?_
    refine lv_iconst (v := 0) hx hb dX9_target_29 (by decide) ?_
    refine lv_iload hx hb dX9_target_30 (lv_at hl 1 rfl) ?_
    refine va_iast hx hb hC.2.2.2.1 hP hD hS (rs.length + 2) 0 wk_last rfl v_0 dX9_target_32 (fun H locs hP hD hS => ?_)
    rw [wk_set] at hP hD
    have hP : va_P D vwCl ((h, .inr (11, [.int (v 0), .int (v 1), .int (v 2), .int (v 3), .int (v 4), .int (v 5), .int (v 6), .int (v 7), .int (v 8), .ref g, .int (nI rs.length)])) :: (g, .inl (Y.2.2.1.2, 100, .inr (.inr (.inr (.inr fg))))) :: (rwW Y rs ++ [(q, .inl (Y.1, 2, .inl (upd (fun _ => 0) 0 (nI x))))])) H := hP
    have hD : va_D A ((h, .inr (11, [.int (v 0), .int (v 1), .int (v 2), .int (v 3), .int (v 4), .int (v 5), .int (v 6), .int (v 7), .int (v 8), .ref g, .int (nI rs.length)])) :: (g, .inl (Y.2.2.1.2, 100, .inr (.inr (.inr (.inr fg))))) :: (rwW Y rs ++ [(q, .inl (Y.1, 2, .inl (upd (fun _ => 0) 0 (nI x))))])) := hD
    refine lv_dup hx hb dX9_target_33 rfl ?_
    refine lv_iconst (v := 1) hx hb dX9_target_34 (by decide) ?_
    refine lv_iload hx hb dX9_target_35 (lv_at hl 0 rfl) ?_
    refine lv_iconst (v := 1) hx hb dX9_target_37 (by decide) ?_
    refine lv_isub hx hb dX9_target_38 ?_
    refine lv_topi (fun x4 ex4 => ?_)
    have ex4 : x4 = nI (y - 1) := ex4.trans (pk_sub hyy)
    subst ex4
    refine va_iast hx hb hC.2.2.2.1 hP hD hS (rs.length + 2) 0 wk_last rfl v_1 dX9_target_39 (fun H locs hP hD hS => ?_)
    rw [wk_set] at hP hD
    have hP : va_P D vwCl ((h, .inr (11, [.int (v 0), .int (v 1), .int (v 2), .int (v 3), .int (v 4), .int (v 5), .int (v 6), .int (v 7), .int (v 8), .ref g, .int (nI rs.length)])) :: (g, .inl (Y.2.2.1.2, 100, .inr (.inr (.inr (.inr fg))))) :: (rwW Y rs ++ [(q, .inl (Y.1, 2, .inl (upd (upd (fun _ => 0) 0 (nI x)) 1 (nI (y - 1)))))])) H := hP
    have hD : va_D A ((h, .inr (11, [.int (v 0), .int (v 1), .int (v 2), .int (v 3), .int (v 4), .int (v 5), .int (v 6), .int (v 7), .int (v 8), .ref g, .int (nI rs.length)])) :: (g, .inl (Y.2.2.1.2, 100, .inr (.inr (.inr (.inr fg))))) :: (rwW Y rs ++ [(q, .inl (Y.1, 2, .inl (upd (upd (fun _ => 0) 0 (nI x)) 1 (nI (y - 1)))))])) := hD
    exact g_aret (x, y - 1) q hF (Or.inr ⟨_, rfl⟩) ⟨hxn, Nat.le_trans (Nat.sub_le _ _) hy3⟩ hP hD hS dX9_target_40 (Nat.le_of_ble_eq_true rfl) (Nat.le_of_ble_eq_true rfl)
