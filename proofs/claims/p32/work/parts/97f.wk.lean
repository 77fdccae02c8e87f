/-! (by wip/p32/wk.py) -/
abbrev rn_X9_explore : Room := { frames := 3, cells := 900, slots := 1800, locals := 180 }
set_option maxHeartbeats 4000000 in
set_option maxRecDepth 100000 in
theorem ex_k {l : Launch} {D : va_G} {Y : CYs} {p : Program} {e : Env} {s : State} {m : MethodId} {args : Array Value} {below : List Frame} {meth : Method} {c : Code} {A : Nat → Prop} {Q : State → Prop} {h g n0 bk jp : Nat} {v : Nat → Int32} (hv : WKv n0 bk jp v) (hF : GF p s m args meth c yX9_explore.cls cX9_explore 4 none D Y A) {sx cx : Nat} (hc3 : cx < 3) (kk : ∀ (fg : Nat → Option Nat) (rs : List (Nat × Nat × Nat)) (H : Heap) (locs : List Loc) (ls : Array Slot), WKi n0 fg rs → sx < rs.length → va_P D vwCl (wkW Y h g v fg rs) H → va_D A (wkW Y h g v fg rs) → va_S A s.heap H locs → lv_has ls 4 [(0, .ref h), (1, .int (nI sx)), (2, .int (nI cx))] → W p l e rn_X9_explore s m args below meth c H locs (1 + 9 * sx + 3 * cx + 3) (2 + 18 * sx + 6 * cx + 6) Q (F0 m 74 ls [])) : ∀ (r kx : Nat), kx + r = 3 → ∀ (fg : Nat → Option Nat) (rs : List (Nat × Nat × Nat)) (H : Heap) (locs : List Loc) (ls : Array Slot), WKi n0 fg rs → sx < rs.length → va_P D vwCl (wkW Y h g v fg rs) H → va_D A (wkW Y h g v fg rs) → va_S A s.heap H locs → lv_has ls 4 [(3, .int (nI kx)), (0, .ref h), (1, .int (nI sx)), (2, .int (nI cx))] → W p l e rn_X9_explore s m args below meth c H locs (1 + 9 * sx + 3 * cx + kx) (2 + 18 * sx + 6 * cx + 2 * kx) Q (F0 m 38 ls []) := by
  intro r
  induction r with
  | zero =>
    intro kx hk fg rs H locs ls hw hsx hP hD hS hl
    have hlen := WKi_len hv.2.2.2.1 hw
    obtain ⟨hC, hb, hml, hr, hlk, hSW, hA⟩ := id hF
    have hx := hC.1
    obtain ⟨⟨a0, x, y⟩, hrow⟩ : ∃ r0, rs[sx]? = some r0 := ⟨rs[sx], List.getElem?_eq_getElem hsx⟩
    have hxn : x ≤ n0 := (hw.1 _ _ hrow).2.1
    have hy3 : y ≤ 3 := (hw.1 _ _ hrow).2.2
    obtain ⟨v0, v4, v8, b1, b2, b3⟩ := id hv
    refine lv_iload_n hx hb dX9_explore_38 rfl (lv_at hl 0 rfl) ?_
    refine lv_aload_n hx hb dX9_explore_39 rfl (lv_at hl 1 rfl) ?_
    refine lv_iload_n hx hb dX9_explore_40 rfl (lv_at hl 3 rfl) ?_
    refine g_i (Rs := []) (C0 := (h, .inr (11, [.int (v 0), .int (v 1), .int (v 2), .int (v 3), .int (v 4), .int (v 5), .int (v 6), .int (v 7), .int (v 8), .ref g, .int (nI rs.length)])) :: (g, .inl (Y.2.2.1.2, 100, .inr (.inr (.inr (.inr fg))))) :: rwW Y rs) (As := [.ref h, .int (nI cx)]) hF hP hD hS XN_ok trivial (rV (As := [.int (nI cx)]) (rest := [.int (nI kx)]) hF hl (c_X9_branches (n0 := n0) _) (cwV 1 hC.2.1 (gi_V (gw_t (tb3 (List.mem_of_getElem? (i := 186) rfl)) rfl) (gw_t (tb3 (List.mem_of_getElem? (i := 187) rfl)) rfl) (gw_t (tb3 (List.mem_of_getElem? (i := 188) rfl)) rfl) (gw_t (tb1 (List.mem_of_getElem? (i := 10) rfl)) rfl) (gw_t (tb3 (List.mem_of_getElem? (i := 189) rfl)) rfl)) rfl rfl rfl ⟨rfl, by decide +kernel, by decide +kernel, by decide +kernel⟩ ⟨(Nat.le_of_ble_eq_true rfl), (Nat.le_of_ble_eq_true rfl)⟩) (va_recv hC.2.2.2.1 hP (q0 := 0) rfl rfl) rfl rfl (Nat.le_of_ble_eq_true rfl) dX9_explore_41 ⟨(by show 1 + 9 * sx + 3 * cx + kx ≤ 900; omega), (by show 2 + 18 * sx + 6 * cx + 2 * kx ≤ 1800; omega)⟩) (fun r u H locs hp hP hD hS => ?_)
    obtain ⟨bb, hbb, rfl⟩ := hp
    have hP : va_P D vwCl ((h, .inr (11, [.int (v 0), .int (v 1), .int (v 2), .int (v 3), .int (v 4), .int (v 5), .int (v 6), .int (v 7), .int (v 8), .ref g, .int (nI rs.length)])) :: (g, .inl (Y.2.2.1.2, 100, .inr (.inr (.inr (.inr fg))))) :: rwW Y rs) H := hP
    have hD : va_D A ((h, .inr (11, [.int (v 0), .int (v 1), .int (v 2), .int (v 3), .int (v 4), .int (v 5), .int (v 6), .int (v 7), .int (v 8), .ref g, .int (nI rs.length)])) :: (g, .inl (Y.2.2.1.2, 100, .inr (.inr (.inr (.inr fg))))) :: rwW Y rs) := hD
    refine lv_icmp_ge (tgt := 74) hx hb dX9_explore_44 (by decide) (fun c1 => ?_) (fun c1 => ?_)
    · refine W.widen (k := 1 + 9 * sx + 3 * cx + 3) (n := 2 + 18 * sx + 6 * cx + 6) (by omega) (by omega) ?_
      exact kk fg rs H locs ls hw hsx hP hD hS (lv_sub hl [1, 2, 3] rfl)
    · have hkb : kx < bb := Nat.lt_of_not_le (fun h => c1 (nI_le h (by omega)))
      omega
  | succ r ih =>
    intro kx hk fg rs H locs ls hw hsx hP hD hS hl
    have hlen := WKi_len hv.2.2.2.1 hw
    obtain ⟨hC, hb, hml, hr, hlk, hSW, hA⟩ := id hF
    have hx := hC.1
    obtain ⟨⟨a0, x, y⟩, hrow⟩ : ∃ r0, rs[sx]? = some r0 := ⟨rs[sx], List.getElem?_eq_getElem hsx⟩
    have hxn : x ≤ n0 := (hw.1 _ _ hrow).2.1
    have hy3 : y ≤ 3 := (hw.1 _ _ hrow).2.2
    obtain ⟨v0, v4, v8, b1, b2, b3⟩ := id hv
    refine lv_iload_n hx hb dX9_explore_38 rfl (lv_at hl 0 rfl) ?_
    refine lv_aload_n hx hb dX9_explore_39 rfl (lv_at hl 1 rfl) ?_
    refine lv_iload_n hx hb dX9_explore_40 rfl (lv_at hl 3 rfl) ?_
    refine g_i (Rs := []) (C0 := (h, .inr (11, [.int (v 0), .int (v 1), .int (v 2), .int (v 3), .int (v 4), .int (v 5), .int (v 6), .int (v 7), .int (v 8), .ref g, .int (nI rs.length)])) :: (g, .inl (Y.2.2.1.2, 100, .inr (.inr (.inr (.inr fg))))) :: rwW Y rs) (As := [.ref h, .int (nI cx)]) hF hP hD hS XN_ok trivial (rV (As := [.int (nI cx)]) (rest := [.int (nI kx)]) hF hl (c_X9_branches (n0 := n0) _) (cwV 1 hC.2.1 (gi_V (gw_t (tb3 (List.mem_of_getElem? (i := 186) rfl)) rfl) (gw_t (tb3 (List.mem_of_getElem? (i := 187) rfl)) rfl) (gw_t (tb3 (List.mem_of_getElem? (i := 188) rfl)) rfl) (gw_t (tb1 (List.mem_of_getElem? (i := 10) rfl)) rfl) (gw_t (tb3 (List.mem_of_getElem? (i := 189) rfl)) rfl)) rfl rfl rfl ⟨rfl, by decide +kernel, by decide +kernel, by decide +kernel⟩ ⟨(Nat.le_of_ble_eq_true rfl), (Nat.le_of_ble_eq_true rfl)⟩) (va_recv hC.2.2.2.1 hP (q0 := 0) rfl rfl) rfl rfl (Nat.le_of_ble_eq_true rfl) dX9_explore_41 ⟨(by show 1 + 9 * sx + 3 * cx + kx ≤ 900; omega), (by show 2 + 18 * sx + 6 * cx + 2 * kx ≤ 1800; omega)⟩) (fun r u H locs hp hP hD hS => ?_)
    obtain ⟨bb, hbb, rfl⟩ := hp
    have hP : va_P D vwCl ((h, .inr (11, [.int (v 0), .int (v 1), .int (v 2), .int (v 3), .int (v 4), .int (v 5), .int (v 6), .int (v 7), .int (v 8), .ref g, .int (nI rs.length)])) :: (g, .inl (Y.2.2.1.2, 100, .inr (.inr (.inr (.inr fg))))) :: rwW Y rs) H := hP
    have hD : va_D A ((h, .inr (11, [.int (v 0), .int (v 1), .int (v 2), .int (v 3), .int (v 4), .int (v 5), .int (v 6), .int (v 7), .int (v 8), .ref g, .int (nI rs.length)])) :: (g, .inl (Y.2.2.1.2, 100, .inr (.inr (.inr (.inr fg))))) :: rwW Y rs) := hD
    refine lv_icmp_ge (tgt := 74) hx hb dX9_explore_44 (by decide) (fun c1 => ?_) (fun c1 => ?_)
    · refine W.widen (k := 1 + 9 * sx + 3 * cx + 3) (n := 2 + 18 * sx + 6 * cx + 6) (by omega) (by omega) ?_
      exact kk fg rs H locs ls hw hsx hP hD hS (lv_sub hl [1, 2, 3] rfl)
    · have hkb : kx < bb := Nat.lt_of_not_le (fun h => c1 (nI_le h (by omega)))
      refine lv_aload_n hx hb dX9_explore_47 rfl (lv_at hl 1 rfl) ?_
      refine lv_iload_n hx hb dX9_explore_48 rfl (lv_at hl 2 rfl) ?_
      refine lv_iload_n hx hb dX9_explore_49 rfl (lv_at hl 3 rfl) ?_
      refine g_i (Rs := []) (C0 := (h, .inr (11, [.int (v 0), .int (v 1), .int (v 2), .int (v 3), .int (v 4), .int (v 5), .int (v 6), .int (v 7), .int (v 8), .ref g, .int (nI rs.length)])) :: (g, .inl (Y.2.2.1.2, 100, .inr (.inr (.inr (.inr fg))))) :: rwW Y rs) (As := [.ref h, .int (nI sx), .int (nI cx)]) hF hP hD hS XN_ok trivial (rV (As := [.int (nI sx), .int (nI cx)]) (rest := []) hF hl (c_X9_isEnabled hv hw hrow hc3 _) (cwV 2 hC.2.1 (gi_V (gw_t (tb3 (List.mem_of_getElem? (i := 190) rfl)) rfl) (gw_t (tb3 (List.mem_of_getElem? (i := 191) rfl)) rfl) (gw_t (tb3 (List.mem_of_getElem? (i := 192) rfl)) rfl) (gw_t (tb1 (List.mem_of_getElem? (i := 10) rfl)) rfl) (gw_t (tb3 (List.mem_of_getElem? (i := 193) rfl)) rfl)) rfl rfl rfl ⟨rfl, by decide +kernel, by decide +kernel, by decide +kernel⟩ ⟨(Nat.le_of_ble_eq_true rfl), (Nat.le_of_ble_eq_true rfl)⟩) (va_recv hC.2.2.2.1 hP (q0 := 0) rfl rfl) rfl rfl (Nat.le_of_ble_eq_true rfl) dX9_explore_50 ⟨(by show 1 + 9 * sx + 3 * cx + kx ≤ 900; omega), (by show 2 + 18 * sx + 6 * cx + 2 * kx ≤ 1800; omega)⟩) (fun r1 u H locs hp hP hD hS => ?_)
      have hP : va_P D vwCl ((h, .inr (11, [.int (v 0), .int (v 1), .int (v 2), .int (v 3), .int (v 4), .int (v 5), .int (v 6), .int (v 7), .int (v 8), .ref g, .int (nI rs.length)])) :: (g, .inl (Y.2.2.1.2, 100, .inr (.inr (.inr (.inr fg))))) :: rwW Y rs) H := hP
      have hD : va_D A ((h, .inr (11, [.int (v 0), .int (v 1), .int (v 2), .int (v 3), .int (v 4), .int (v 5), .int (v 6), .int (v 7), .int (v 8), .ref g, .int (nI rs.length)])) :: (g, .inl (Y.2.2.1.2, 100, .inr (.inr (.inr (.inr fg))))) :: rwW Y rs) := hD
      refine lv_if_eq (tgt := 74) hx hb dX9_explore_53 (by decide) (fun c2 => ?_) (fun c2 => ?_)
      · refine W.widen (k := 1 + 9 * sx + 3 * cx + 3) (n := 2 + 18 * sx + 6 * cx + 6) (by omega) (by omega) ?_
        exact kk fg rs H locs ls hw hsx hP hD hS (lv_sub hl [1, 2, 3] rfl)
      · have hen := (hp.resolve_left c2).2
        refine lv_aload_n hx hb dX9_explore_56 rfl (lv_at hl 1 rfl) ?_
        refine lv_aload_n hx hb dX9_explore_57 rfl (lv_at hl 1 rfl) ?_
        refine lv_iload_n hx hb dX9_explore_58 rfl (lv_at hl 2 rfl) ?_
        refine lv_iload_n hx hb dX9_explore_59 rfl (lv_at hl 3 rfl) ?_
        refine lv_iload_n hx hb dX9_explore_60 rfl (lv_at hl 0 rfl) ?_
        refine g_r (Rs := []) (C0 := (h, .inr (11, [.int (v 0), .int (v 1), .int (v 2), .int (v 3), .int (v 4), .int (v 5), .int (v 6), .int (v 7), .int (v 8), .ref g, .int (nI rs.length)])) :: (g, .inl (Y.2.2.1.2, 100, .inr (.inr (.inr (.inr fg))))) :: rwW Y rs) (As := [.ref h, .int (nI sx), .int (nI cx), .int (nI kx)]) hF hP hD hS XN_ok trivial (rV (As := [.int (nI sx), .int (nI cx), .int (nI kx)]) (rest := [.ref h]) hF hl (c_X9_target (kx := kx) hv hw hrow hc3 hen _) (cwV 3 hC.2.1 (gi_V (gw_t (tb3 (List.mem_of_getElem? (i := 198) rfl)) rfl) (gw_t (tb3 (List.mem_of_getElem? (i := 199) rfl)) rfl) (gw_t (tb3 (List.mem_of_getElem? (i := 200) rfl)) rfl) (gw_t (tb1 (List.mem_of_getElem? (i := 10) rfl)) rfl) (gw_t (tb3 (List.mem_of_getElem? (i := 201) rfl)) rfl)) rfl rfl rfl ⟨rfl, by decide +kernel, by decide +kernel, by decide +kernel⟩ ⟨(Nat.le_of_ble_eq_true rfl), (Nat.le_of_ble_eq_true rfl)⟩) (va_recv hC.2.2.2.1 hP (q0 := 0) rfl rfl) rfl rfl (Nat.le_of_ble_eq_true rfl) dX9_explore_61 ⟨(by show 1 + 9 * sx + 3 * cx + kx + 1 ≤ 900; omega), (by show 2 + 18 * sx + 6 * cx + 2 * kx + 2 ≤ 1800; omega)⟩) (fun q u H locs hu hP hD hS => ?_)
        have hP : va_P D vwCl ((h, .inr (11, [.int (v 0), .int (v 1), .int (v 2), .int (v 3), .int (v 4), .int (v 5), .int (v 6), .int (v 7), .int (v 8), .ref g, .int (nI rs.length)])) :: (g, .inl (Y.2.2.1.2, 100, .inr (.inr (.inr (.inr fg))))) :: (rwW Y rs ++ [rwC Y (q, u.1, u.2)])) H := hP
        have hD : va_D A ((h, .inr (11, [.int (v 0), .int (v 1), .int (v 2), .int (v 3), .int (v 4), .int (v 5), .int (v 6), .int (v 7), .int (v 8), .ref g, .int (nI rs.length)])) :: (g, .inl (Y.2.2.1.2, 100, .inr (.inr (.inr (.inr fg))))) :: (rwW Y rs ++ [rwC Y (q, u.1, u.2)])) := hD
        refine g_i (Rs := []) (C0 := (h, .inr (11, [.int (v 0), .int (v 1), .int (v 2), .int (v 3), .int (v 4), .int (v 5), .int (v 6), .int (v 7), .int (v 8), .ref g, .int (nI rs.length)])) :: (g, .inl (Y.2.2.1.2, 100, .inr (.inr (.inr (.inr fg))))) :: (rwW Y rs ++ [rwC Y (q, u.1, u.2)])) (As := [.ref h, .ref q]) hF hP hD hS XN_ok trivial (rV (As := [.ref q]) (rest := []) hF hl (c_X9_find hv hw hu.1 hu.2 _) (cwV 1 hC.2.1 (gi_V (gw_t (tb3 (List.mem_of_getElem? (i := 182) rfl)) rfl) (gw_t (tb3 (List.mem_of_getElem? (i := 183) rfl)) rfl) (gw_t (tb3 (List.mem_of_getElem? (i := 184) rfl)) rfl) (gw_t (tb1 (List.mem_of_getElem? (i := 10) rfl)) rfl) (gw_t (tb3 (List.mem_of_getElem? (i := 185) rfl)) rfl)) rfl rfl rfl ⟨rfl, by decide +kernel, by decide +kernel, by decide +kernel⟩ ⟨(Nat.le_of_ble_eq_true rfl), (Nat.le_of_ble_eq_true rfl)⟩) (va_recv hC.2.2.2.1 hP (q0 := 0) rfl rfl) rfl rfl (Nat.le_of_ble_eq_true rfl) dX9_explore_64 ⟨(by show 1 + 9 * sx + 3 * cx + kx + 1 ≤ 900; omega), (by show 2 + 18 * sx + 6 * cx + 2 * kx + 2 ≤ 1800; omega)⟩) (fun r2 u2 H locs hu2 hP hD hS => ?_)
        obtain ⟨fg2, rs2⟩ := u2
        obtain ⟨hw2, hpre⟩ := hu2
        have hw2 : WKi n0 fg2 rs2 := hw2
        have hpre : ∀ (i : Nat) (r : Nat × Nat × Nat), rs[i]? = some r → rs2[i]? = some r := hpre
        have hP : va_P D vwCl ((h, .inr (11, [.int (v 0), .int (v 1), .int (v 2), .int (v 3), .int (v 4), .int (v 5), .int (v 6), .int (v 7), .int (v 8), .ref g, .int (nI rs2.length)])) :: (g, .inl (Y.2.2.1.2, 100, .inr (.inr (.inr (.inr fg2))))) :: rwW Y rs2) H := hP
        have hD : va_D A ((h, .inr (11, [.int (v 0), .int (v 1), .int (v 2), .int (v 3), .int (v 4), .int (v 5), .int (v 6), .int (v 7), .int (v 8), .ref g, .int (nI rs2.length)])) :: (g, .inl (Y.2.2.1.2, 100, .inr (.inr (.inr (.inr fg2))))) :: rwW Y rs2) := hD
        refine lv_pop hx hb dX9_explore_67 rfl ?_
        refine lv_iinc (v := nI (kx + 1)) (lv' := [(3, .int (nI (kx + 1))), (0, .ref h), (1, .int (nI sx)), (2, .int (nI cx))]) hx hb dX9_explore_68 hl (k := 0) rfl (by rw [← nI_1]; rfl) (by decide) rfl (fun ls hl => ?_)
        refine lv_goto (tgt := 38) hx hb dX9_explore_71 (by decide) ?_
        refine W.widen (k := 1 + 9 * sx + 3 * cx + (kx + 1)) (n := 2 + 18 * sx + 6 * cx + 2 * (kx + 1)) (by omega) (by omega) ?_
        exact ih (kx + 1) (by omega) fg2 rs2 H locs ls hw2 (List.getElem?_eq_some_iff.mp (hpre _ _ hrow)).1 hP hD hS (lv_sub hl [0, 1, 2, 3] rfl)
set_option maxHeartbeats 4000000 in
set_option maxRecDepth 100000 in
theorem ex_c {l : Launch} {D : va_G} {Y : CYs} {p : Program} {e : Env} {s : State} {m : MethodId} {args : Array Value} {below : List Frame} {meth : Method} {c : Code} {A : Nat → Prop} {Q : State → Prop} {h g n0 bk jp : Nat} {v : Nat → Int32} (hv : WKv n0 bk jp v) (hF : GF p s m args meth c yX9_explore.cls cX9_explore 4 none D Y A) {sx : Nat} (kk : ∀ (fg : Nat → Option Nat) (rs : List (Nat × Nat × Nat)) (H : Heap) (locs : List Loc) (ls : Array Slot), WKi n0 fg rs → sx < rs.length → va_P D vwCl (wkW Y h g v fg rs) H → va_D A (wkW Y h g v fg rs) → va_S A s.heap H locs → lv_has ls 4 [(0, .ref h), (1, .int (nI sx))] → W p l e rn_X9_explore s m args below meth c H locs (1 + 9 * sx + 9) (2 + 18 * sx + 18) Q (F0 m 80 ls [])) : ∀ (r cx : Nat), cx + r = 3 → ∀ (fg : Nat → Option Nat) (rs : List (Nat × Nat × Nat)) (H : Heap) (locs : List Loc) (ls : Array Slot), WKi n0 fg rs → sx < rs.length → va_P D vwCl (wkW Y h g v fg rs) H → va_D A (wkW Y h g v fg rs) → va_S A s.heap H locs → lv_has ls 4 [(0, .ref h), (1, .int (nI sx)), (2, .int (nI cx))] → W p l e rn_X9_explore s m args below meth c H locs (1 + 9 * sx + 3 * cx) (2 + 18 * sx + 6 * cx) Q (F0 m 31 ls []) := by
  intro r
  induction r with
  | zero =>
    intro cx hk fg rs H locs ls hw hsx hP hD hS hl
    have hlen := WKi_len hv.2.2.2.1 hw
    obtain ⟨hC, hb, hml, hr, hlk, hSW, hA⟩ := id hF
    have hx := hC.1
    refine lv_iload_n hx hb dX9_explore_31 rfl (lv_at hl 2 rfl) ?_
    refine lv_iconst (v := 3) hx hb dX9_explore_32 (by decide) ?_
    obtain rfl : cx = 3 := by omega
    refine lv_icmp_ge (tgt := 80) hx hb dX9_explore_33 (by decide) (fun c1 => ?_) (fun c1 => False.elim (c1 (by decide)))
    exact kk fg rs H locs ls hw hsx hP hD hS (lv_sub hl [0, 1] rfl)
  | succ r ih =>
    intro cx hk fg rs H locs ls hw hsx hP hD hS hl
    have hlen := WKi_len hv.2.2.2.1 hw
    obtain ⟨hC, hb, hml, hr, hlk, hSW, hA⟩ := id hF
    have hx := hC.1
    refine lv_iload_n hx hb dX9_explore_31 rfl (lv_at hl 2 rfl) ?_
    refine lv_iconst (v := 3) hx hb dX9_explore_32 (by decide) ?_
    refine lv_icmp_ge (tgt := 80) hx hb dX9_explore_33 (by decide) (fun c1 => False.elim (nI_ge (a := cx) (b := 3) (by omega) (by decide) c1)) (fun c1 => ?_)
    refine lv_iconst (v := 0) hx hb dX9_explore_36 (by decide) ?_
    refine lv_istore_n (lv' := [(3, .int 0), (0, .ref h), (1, .int (nI sx)), (2, .int (nI cx))]) hx hb dX9_explore_37 rfl hl (by decide) rfl (fun ls hl => ?_)
    refine ex_k hv hF (by omega) (fun fg rs H locs ls hw hsx hP hD hS hl => ?_) 3 0 rfl fg rs H locs ls hw hsx hP hD hS (lv_sub hl [0, 1, 2, 3] rfl)
    refine lv_iinc (v := nI (cx + 1)) (lv' := [(2, .int (nI (cx + 1))), (0, .ref h), (1, .int (nI sx))]) hx hb dX9_explore_74 hl (k := 2) rfl (by rw [← nI_1]; rfl) (by decide) rfl (fun ls hl => ?_)
    refine lv_goto (tgt := 31) hx hb dX9_explore_77 (by decide) ?_
    refine W.widen (k := 1 + 9 * sx + 3 * (cx + 1)) (n := 2 + 18 * sx + 6 * (cx + 1)) (by omega) (by omega) ?_
    exact ih (cx + 1) (by omega) fg rs H locs ls hw hsx hP hD hS (lv_sub hl [1, 2, 0] rfl)
set_option maxHeartbeats 4000000 in
set_option maxRecDepth 100000 in
theorem ex_s {l : Launch} {D : va_G} {Y : CYs} {p : Program} {e : Env} {s : State} {m : MethodId} {args : Array Value} {below : List Frame} {meth : Method} {c : Code} {A : Nat → Prop} {Q : State → Prop} {h g n0 bk jp : Nat} {v : Nat → Int32} (hv : WKv n0 bk jp v) (hF : GF p s m args meth c yX9_explore.cls cX9_explore 4 none D Y A) (kk : ∀ (fg : Nat → Option Nat) (rs : List (Nat × Nat × Nat)) (H : Heap) (locs : List Loc) (ls : Array Slot), WKi n0 fg rs → va_P D vwCl (wkW Y h g v fg rs) H → va_D A (wkW Y h g v fg rs) → va_S A s.heap H locs → lv_has ls 4 [(0, .ref h), (1, .int (nI rs.length))] → W p l e rn_X9_explore s m args below meth c H locs (900) (1800) Q (F0 m 86 ls [])) : ∀ (r sx : Nat), sx + r = 88 → ∀ (fg : Nat → Option Nat) (rs : List (Nat × Nat × Nat)) (H : Heap) (locs : List Loc) (ls : Array Slot), WKi n0 fg rs → sx ≤ rs.length → va_P D vwCl (wkW Y h g v fg rs) H → va_D A (wkW Y h g v fg rs) → va_S A s.heap H locs → lv_has ls 4 [(0, .ref h), (1, .int (nI sx))] → W p l e rn_X9_explore s m args below meth c H locs (1 + 9 * sx) (2 + 18 * sx) Q (F0 m 21 ls []) := by
  intro r
  induction r with
  | zero =>
    intro sx hk fg rs H locs ls hw hsx hP hD hS hl
    have hlen := WKi_len hv.2.2.2.1 hw
    obtain ⟨hC, hb, hml, hr, hlk, hSW, hA⟩ := id hF
    have hx := hC.1
    refine lv_iload_n hx hb dX9_explore_21 rfl (lv_at hl 1 rfl) ?_
    refine lv_aload_n hx hb dX9_explore_22 rfl (lv_at hl 0 rfl) ?_
    refine n_get hC hb hP inGX9 0 rfl rfl 10 (by decide) rfl (gw_t (tb3 (List.mem_of_getElem? (i := 212) rfl)) rfl) rfl dX9_explore_23 ?_
    obtain rfl : sx = rs.length := by omega
    refine lv_icmp_ge (tgt := 86) hx hb dX9_explore_26 (by decide) (fun c1 => ?_) (fun c1 => False.elim (c1 (nI_le (Nat.le_refl _) (by omega))))
    refine W.widen (k := 900) (n := 1800) (by omega) (by omega) ?_
    exact kk fg rs H locs ls hw hP hD hS hl
  | succ r ih =>
    intro sx hk fg rs H locs ls hw hsx hP hD hS hl
    have hlen := WKi_len hv.2.2.2.1 hw
    obtain ⟨hC, hb, hml, hr, hlk, hSW, hA⟩ := id hF
    have hx := hC.1
    refine lv_iload_n hx hb dX9_explore_21 rfl (lv_at hl 1 rfl) ?_
    refine lv_aload_n hx hb dX9_explore_22 rfl (lv_at hl 0 rfl) ?_
    refine n_get hC hb hP inGX9 0 rfl rfl 10 (by decide) rfl (gw_t (tb3 (List.mem_of_getElem? (i := 212) rfl)) rfl) rfl dX9_explore_23 ?_
    refine lv_icmp_ge (tgt := 86) hx hb dX9_explore_26 (by decide) (fun c1 => ?_) (fun c1 => ?_)
    · obtain rfl : sx = rs.length := by have := (nI_leI (a := rs.length) (b := sx) (by omega) (by omega)).mp c1; omega
      refine W.widen (k := 900) (n := 1800) (by omega) (by omega) ?_
      exact kk fg rs H locs ls hw hP hD hS hl
    · have hlt : sx < rs.length := Nat.lt_of_not_le (fun h => c1 (nI_le h (by omega)))
      refine lv_iconst (v := 0) hx hb dX9_explore_29 (by decide) ?_
      refine lv_istore_n (lv' := [(2, .int 0), (0, .ref h), (1, .int (nI sx))]) hx hb dX9_explore_30 rfl hl (by decide) rfl (fun ls hl => ?_)
      refine ex_c hv hF (fun fg rs H locs ls hw hsx hP hD hS hl => ?_) 3 0 rfl fg rs H locs ls hw hlt hP hD hS (lv_sub hl [1, 2, 0] rfl)
      refine lv_iinc (v := nI (sx + 1)) (lv' := [(1, .int (nI (sx + 1))), (0, .ref h)]) hx hb dX9_explore_80 hl (k := 1) rfl (by rw [← nI_1]; rfl) (by decide) rfl (fun ls hl => ?_)
      refine lv_goto (tgt := 21) hx hb dX9_explore_83 (by decide) ?_
      refine W.widen (k := 1 + 9 * (sx + 1)) (n := 2 + 18 * (sx + 1)) (by omega) (by omega) ?_
      exact ih (sx + 1) (by omega) fg rs H locs ls hw (by omega) hP hD hS (lv_sub hl [1, 0] rfl)

set_option maxHeartbeats 4000000 in
set_option maxRecDepth 100000 in
theorem c_X9_explore {l : Launch} {D : va_G} {Y : CYs} {h g n0 bk jp : Nat} {v : Nat → Int32} {fg : Nat → Option Nat} (hv : WKv n0 bk jp v) (hfi : ∃ fi, fi ≤ n0 ∧ v 1 = nI fi) (sz : Nat) : Met l yX9_explore (Cond.code yX9_explore cX9_explore 4 none :: gW) rn_X9_explore (PcE XN (wkW Y h g v fg []) Y D sz [.ref h]) (GV (S := Nat) (fun _ => True) (fun u => [(h, .inr (11, wkO v g u))]) Y D (va_A (wkW Y h g v fg []) sz)) 900 1800 (va_A (wkW Y h g v fg []) sz) := by
  refine Met_ofE (Qc := GV (S := Nat) (fun _ => True) (fun u => [(h, .inr (11, wkO v g u))]) Y D) (by decide) (Nat.le_of_ble_eq_true rfl) (fun p e s m args below meth c A hF hX hin hP hD hS ls hl => ?_) sz
  obtain ⟨hC, hb, hml, hr, hlk, hSW, hA⟩ := id hF
  have hx := hC.1
  have hl : lv_has ls 4 [(0, .ref h)] := hl
  obtain ⟨fi, hfi1, hfi2⟩ := hfi
  have hP : va_P D vwCl ((h, .inr (11, [.int (v 0), .int (v 1), .int (v 2), .int (v 3), .int (v 4), .int (v 5), .int (v 6), .int (v 7), .int (v 8), .ref g, .int (nI 0)])) :: (g, .inl (Y.2.2.1.2, 100, .inr (.inr (.inr (.inr fg))))) :: rwW Y []) s.heap := hP
  have hD : va_D A ((h, .inr (11, [.int (v 0), .int (v 1), .int (v 2), .int (v 3), .int (v 4), .int (v 5), .int (v 6), .int (v 7), .int (v 8), .ref g, .int (nI 0)])) :: (g, .inl (Y.2.2.1.2, 100, .inr (.inr (.inr (.inr fg))))) :: rwW Y []) := hD
  refine lv_aload_n hx hb dX9_explore_0 rfl (lv_at hl 0 rfl) ?_
  refine lv_iconst (v := 2) hx hb dX9_explore_1 (by decide) ?_
  refine n_arrI (N' := 2) hC hb hP hD hS hA (by decide) (by decide) (Nat.le_of_ble_eq_true rfl) (Nat.le_of_ble_eq_true rfl) (Nat.le_of_ble_eq_true rfl) dX9_explore_2 (fun q H hP hD hS => ?_)
  have hP : va_P D vwCl ((h, .inr (11, [.int (v 0), .int (v 1), .int (v 2), .int (v 3), .int (v 4), .int (v 5), .int (v 6), .int (v 7), .int (v 8), .ref g, .int (nI 0)])) :: (g, .inl (Y.2.2.1.2, 100, .inr (.inr (.inr (.inr fg))))) :: (rwW Y [] ++ [(q, .inl (Y.1, 2, .inl (fun _ => 0)))])) H := hP
  have hD : va_D A ((h, .inr (11, [.int (v 0), .int (v 1), .int (v 2), .int (v 3), .int (v 4), .int (v 5), .int (v 6), .int (v 7), .int (v 8), .ref g, .int (nI 0)])) :: (g, .inl (Y.2.2.1.2, 100, .inr (.inr (.inr (.inr fg))))) :: (rwW Y [] ++ [(q, .inl (Y.1, 2, .inl (fun _ => 0)))])) := hD
  refine lv_dup hx hb dX9_explore_4 rfl ?_
  refine lv_iconst (v := 0) hx hb dX9_explore_5 (by decide) ?_
  refine lv_aload_n hx hb dX9_explore_6 rfl (lv_at hl 0 rfl) ?_
  refine n_get hC hb hP inGX9 0 rfl rfl 1 (by decide) rfl (gw_t (tb3 (List.mem_of_getElem? (i := 203) rfl)) rfl) rfl dX9_explore_7 ?_
  refine lv_topi (fun x1 ex1 => ?_)
  have ex1 : x1 = nI fi := ex1.trans (hfi2)
  subst ex1
  refine va_iast hx hb hC.2.2.2.1 hP hD hS 2 0 rfl rfl v_0 dX9_explore_10 (fun H locs hP hD hS => ?_)
  have hP : va_P D vwCl ((h, .inr (11, [.int (v 0), .int (v 1), .int (v 2), .int (v 3), .int (v 4), .int (v 5), .int (v 6), .int (v 7), .int (v 8), .ref g, .int (nI 0)])) :: (g, .inl (Y.2.2.1.2, 100, .inr (.inr (.inr (.inr fg))))) :: (rwW Y [] ++ [(q, .inl (Y.1, 2, .inl (upd (fun _ => 0) 0 (nI fi))))])) H := hP
  have hD : va_D A ((h, .inr (11, [.int (v 0), .int (v 1), .int (v 2), .int (v 3), .int (v 4), .int (v 5), .int (v 6), .int (v 7), .int (v 8), .ref g, .int (nI 0)])) :: (g, .inl (Y.2.2.1.2, 100, .inr (.inr (.inr (.inr fg))))) :: (rwW Y [] ++ [(q, .inl (Y.1, 2, .inl (upd (fun _ => 0) 0 (nI fi))))])) := hD
  refine lv_dup hx hb dX9_explore_11 rfl ?_
  refine lv_iconst (v := 1) hx hb dX9_explore_12 (by decide) ?_
  refine lv_iconst (v := 0) hx hb dX9_explore_13 (by decide) ?_
  refine lv_topi (fun x2 ex2 => ?_)
  have ex2 : x2 = nI 0 := ex2.trans (rfl)
  subst ex2
  refine va_iast hx hb hC.2.2.2.1 hP hD hS 2 0 rfl rfl v_1 dX9_explore_14 (fun H locs hP hD hS => ?_)
  have hP : va_P D vwCl ((h, .inr (11, [.int (v 0), .int (v 1), .int (v 2), .int (v 3), .int (v 4), .int (v 5), .int (v 6), .int (v 7), .int (v 8), .ref g, .int (nI 0)])) :: (g, .inl (Y.2.2.1.2, 100, .inr (.inr (.inr (.inr fg))))) :: (rwW Y [] ++ [(q, .inl (Y.1, 2, .inl (upd (upd (fun _ => 0) 0 (nI fi)) 1 (nI 0))))])) H := hP
  have hD : va_D A ((h, .inr (11, [.int (v 0), .int (v 1), .int (v 2), .int (v 3), .int (v 4), .int (v 5), .int (v 6), .int (v 7), .int (v 8), .ref g, .int (nI 0)])) :: (g, .inl (Y.2.2.1.2, 100, .inr (.inr (.inr (.inr fg))))) :: (rwW Y [] ++ [(q, .inl (Y.1, 2, .inl (upd (upd (fun _ => 0) 0 (nI fi)) 1 (nI 0))))])) := hD
  have hP : va_P D vwCl ((h, .inr (11, [.int (v 0), .int (v 1), .int (v 2), .int (v 3), .int (v 4), .int (v 5), .int (v 6), .int (v 7), .int (v 8), .ref g, .int (nI 0)])) :: (g, .inl (Y.2.2.1.2, 100, .inr (.inr (.inr (.inr fg))))) :: (rwW Y [] ++ [rwC Y (q, fi, 0)])) H := hP
  have hD : va_D A ((h, .inr (11, [.int (v 0), .int (v 1), .int (v 2), .int (v 3), .int (v 4), .int (v 5), .int (v 6), .int (v 7), .int (v 8), .ref g, .int (nI 0)])) :: (g, .inl (Y.2.2.1.2, 100, .inr (.inr (.inr (.inr fg))))) :: (rwW Y [] ++ [rwC Y (q, fi, 0)])) := hD
  refine g_i (Rs := []) (C0 := (h, .inr (11, [.int (v 0), .int (v 1), .int (v 2), .int (v 3), .int (v 4), .int (v 5), .int (v 6), .int (v 7), .int (v 8), .ref g, .int (nI 0)])) :: (g, .inl (Y.2.2.1.2, 100, .inr (.inr (.inr (.inr fg))))) :: (rwW Y [] ++ [rwC Y (q, fi, 0)])) (As := [.ref h, .ref q]) hF hP hD hS XN_ok trivial (rV (As := [.ref q]) (rest := []) hF hl (c_X9_find (rs := []) (fg := fg) (x := fi) (y := 0) hv (WKi_nil n0 fg) hfi1 (Nat.zero_le _) _) (cwV 1 hC.2.1 (gi_V (gw_t (tb3 (List.mem_of_getElem? (i := 182) rfl)) rfl) (gw_t (tb3 (List.mem_of_getElem? (i := 183) rfl)) rfl) (gw_t (tb3 (List.mem_of_getElem? (i := 184) rfl)) rfl) (gw_t (tb1 (List.mem_of_getElem? (i := 10) rfl)) rfl) (gw_t (tb3 (List.mem_of_getElem? (i := 185) rfl)) rfl)) rfl rfl rfl ⟨rfl, by decide +kernel, by decide +kernel, by decide +kernel⟩ ⟨(Nat.le_of_ble_eq_true rfl), (Nat.le_of_ble_eq_true rfl)⟩) (va_recv hC.2.2.2.1 hP (q0 := 0) rfl rfl) rfl rfl (Nat.le_of_ble_eq_true rfl) dX9_explore_15 ⟨(Nat.le_of_ble_eq_true rfl), (Nat.le_of_ble_eq_true rfl)⟩) (fun r2 u2 H locs hu2 hP hD hS => ?_)
  obtain ⟨fg2, rs2⟩ := u2
  obtain ⟨hw2, hpre⟩ := hu2
  have hw2 : WKi n0 fg2 rs2 := hw2
  have hP : va_P D vwCl ((h, .inr (11, [.int (v 0), .int (v 1), .int (v 2), .int (v 3), .int (v 4), .int (v 5), .int (v 6), .int (v 7), .int (v 8), .ref g, .int (nI rs2.length)])) :: (g, .inl (Y.2.2.1.2, 100, .inr (.inr (.inr (.inr fg2))))) :: rwW Y rs2) H := hP
  have hD : va_D A ((h, .inr (11, [.int (v 0), .int (v 1), .int (v 2), .int (v 3), .int (v 4), .int (v 5), .int (v 6), .int (v 7), .int (v 8), .ref g, .int (nI rs2.length)])) :: (g, .inl (Y.2.2.1.2, 100, .inr (.inr (.inr (.inr fg2))))) :: rwW Y rs2) := hD
  refine lv_pop hx hb dX9_explore_18 rfl ?_
  refine lv_iconst (v := 0) hx hb dX9_explore_19 (by decide) ?_
  refine lv_istore_n (lv' := [(1, .int 0), (0, .ref h)]) hx hb dX9_explore_20 rfl hl (by decide) rfl (fun ls hl => ?_)
  refine W.widen (k := 1 + 9 * 0) (n := 2 + 18 * 0) (by decide) (by decide) ?_
  refine ex_s hv hF (fun fg rs H locs ls hw hP hD hS hl => ?_) 88 0 rfl fg2 rs2 H locs ls hw2 (Nat.zero_le _) hP hD hS (lv_sub hl [1, 0] rfl)
  have hP : va_P D vwCl [(h, .inr (11, wkO v g rs.length))] H := fun k q hk => hP k q (by match k, hk with | 0, hk => exact hk)
  have hD : va_D A [(h, .inr (11, wkO v g rs.length))] := ⟨fun i j q q2 hi hj _ => by have h1 := (List.getElem?_eq_some_iff.mp hi).1; have h2 := (List.getElem?_eq_some_iff.mp hj).1; have h3 : i < 1 := h1; have h4 : j < 1 := h2; omega, fun k q hk => hD.2 k q (by match k, hk with | 0, hk => exact hk)⟩
  exact g_vret rs.length hF trivial hP hD hS dX9_explore_86 (Nat.le_of_ble_eq_true rfl) (Nat.le_of_ble_eq_true rfl)
