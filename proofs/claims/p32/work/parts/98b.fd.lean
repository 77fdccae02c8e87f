/-! feed, compile (by wip/p32/fd.py). -/
abbrev rn_L_feed : Room := { frames := 6, cells := 20, slots := 100, locals := 360 }
set_option maxHeartbeats 4000000 in
set_option maxRecDepth 100000 in
theorem fd_i {l : Launch} {D : va_G} {Y : CYs} {p : Program} {e : Env} {s : State} {m : MethodId} {args : Array Value} {below : List Frame} {meth : Method} {c : Code} {A : Nat → Prop} {Q : State → Prop} {E : Nat → Nat} {N a v0 : Nat} {bs : List Int32} {t : List Nat} (hF : GF p s m args meth c yL_feed.cls cL_feed 6 none D Y A) (hX : STA N bs a v0 A s s.heap) (hsb : SB bs t) (hlen : t.length = N) (hN : N ≤ 400) {σ : Sta} {r q cells slots : Nat} (hr20 : 20 * r < N) (hcs : cells ≤ 20 ∧ slots ≤ 100) (kk : ∀ (H : Heap) (locs : List Loc) (ls : Array Slot), va_P D vwCl ((q, .inl (Y.1, 5, .inl (fvG (cK t r) 20))) :: wd Y E σ 0 LC) H → va_D A ((q, .inl (Y.1, 5, .inl (fvG (cK t r) 20))) :: wd Y E σ 0 LC) → va_S A s.heap H locs → lv_has ls 6 [(0, .ref (E 0)), (1, .ref a), (2, .int (nI N)), (3, .int (nI (20 * r))), (4, .ref q)] → W p l e rn_L_feed s m args below meth c H locs (cells) (slots) Q (F0 m 72 ls [])) : ∀ (z i : Nat), i + z = 20 → ∀ (H : Heap) (locs : List Loc) (ls : Array Slot), va_P D vwCl ((q, .inl (Y.1, 5, .inl (fvG (cK t r) i))) :: wd Y E σ 0 LC) H → va_D A ((q, .inl (Y.1, 5, .inl (fvG (cK t r) i))) :: wd Y E σ 0 LC) → va_S A s.heap H locs → lv_has ls 6 [(5, .int (nI i)), (0, .ref (E 0)), (1, .ref a), (2, .int (nI N)), (3, .int (nI (20 * r))), (4, .ref q)] → W p l e rn_L_feed s m args below meth c H locs (cells) (slots) Q (F0 m 20 ls []) := by
  intro z
  induction z with
  | zero =>
    intro i hi H locs ls hP hD hS hl
    obtain ⟨hC, hb, hml, hr, hlk, hSW, hA⟩ := id hF
    have hx := hC.1
    refine lv_iload hx hb dL_feed_20 (lv_at hl 0 rfl) ?_
    refine lv_bipush (v := 20) hx hb dL_feed_22 (by decide) ?_
    obtain rfl : i = 20 := by omega
    refine lv_icmp_ge (tgt := 72) hx hb dL_feed_24 (by decide) (fun c1 => ?_) (fun c1 => False.elim (c1 (by decide)))
    exact kk H locs ls hP hD hS (lv_sub hl [1, 2, 3, 4, 5] rfl)
  | succ z ih =>
    intro i hi H locs ls hP hD hS hl
    obtain ⟨hC, hb, hml, hr, hlk, hSW, hA⟩ := id hF
    have hx := hC.1
    refine lv_iload hx hb dL_feed_20 (lv_at hl 0 rfl) ?_
    refine lv_bipush (v := 20) hx hb dL_feed_22 (by decide) ?_
    refine lv_icmp_ge (tgt := 72) hx hb dL_feed_24 (by decide) (fun c1 => False.elim (nI_ge (a := i) (b := 20) (by omega) (by decide) c1)) (fun c1 => ?_)
    refine lv_aload hx hb dL_feed_27 (lv_at hl 5 rfl) ?_
    refine lv_iload hx hb dL_feed_29 (lv_at hl 0 rfl) ?_
    refine lv_iconst (v := 4) hx hb dL_feed_31 (by decide) ?_
    refine lv_idiv hx hb dL_feed_32 (by decide) ?_
    refine lv_topi (fun x2 ex2 => ?_)
    have ex2 : x2 = nI (i / 4) := ex2.trans (show nI i / nI 4 = nI (i / 4) from pk_div (by omega) (by decide) (by decide))
    subst ex2
    refine lv_aload hx hb dL_feed_33 (lv_at hl 5 rfl) ?_
    refine lv_iload hx hb dL_feed_35 (lv_at hl 0 rfl) ?_
    refine lv_iconst (v := 4) hx hb dL_feed_37 (by decide) ?_
    refine lv_idiv hx hb dL_feed_38 (by decide) ?_
    refine lv_topi (fun x3 ex3 => ?_)
    have ex3 : x3 = nI (i / 4) := ex3.trans (show nI i / nI 4 = nI (i / 4) from pk_div (by omega) (by decide) (by decide))
    subst ex3
    refine va_iald hx hb hC.2.2.2.1 hP 0 0 rfl rfl (vp_in_nI (n := i / 4) (by omega) (by decide)) dL_feed_39 ?_
    refine lv_topi (fun x4 ex4 => ?_)
    have ex4 : x4 = fvG (cK t r) i (i / 4) := ex4.trans (by rw [nI_clamp (by omega)])
    subst ex4
    refine lv_bipush (v := 8) hx hb dL_feed_40 (by decide) ?_
    refine lv_ishl hx hb dL_feed_42 ?_
    refine lv_iload_n hx hb dL_feed_43 rfl (lv_at hl 4 rfl) ?_
    refine lv_iload hx hb dL_feed_44 (lv_at hl 0 rfl) ?_
    refine lv_iadd hx hb dL_feed_46 ?_
    refine lv_topi (fun x5 ex5 => ?_)
    have ex5 : x5 = nI (20 * r + i) := ex5.trans (nI_add _ _)
    subst ex5
    refine lv_iload_n hx hb dL_feed_47 rfl (lv_at hl 3 rfl) ?_
    refine lv_icmp_ge (tgt := 62) hx hb dL_feed_48 (by decide) (fun c6 => ?_) (fun c6 => ?_)
    · have hout : cK t r i = 32 := cB_o (fun h => nI_ge (a := 20 * r + i) (b := N) (by omega) (by omega) c6)
      refine lv_bipush (v := 32) hx hb dL_feed_62 (by decide) ?_
      refine lv_ior hx hb dL_feed_64 ?_
      refine lv_topi (fun x7 ex7 => ?_)
      have ex7 : x7 = (fvG (cK t r) i (i / 4) <<< (8 &&& 31)) ||| nI (cK t r i) := ex7.trans (by rw [hout]; rfl)
      subst ex7
      refine va_iast hx hb hC.2.2.2.1 hP hD hS 0 0 rfl rfl (vp_in_nI (n := i / 4) (by omega) (by decide)) dL_feed_65 (fun H locs hP hD hS => ?_)
      rw [nI_clamp (n := i / 4) (by omega)] at hP hD
      have hP : va_P D vwCl ((q, .inl (Y.1, 5, .inl (fvG (cK t r) (i + 1)))) :: wd Y E σ 0 LC) H := hP
      have hD : va_D A ((q, .inl (Y.1, 5, .inl (fvG (cK t r) (i + 1)))) :: wd Y E σ 0 LC) := hD
      refine lv_iinc (v := nI (i + 1)) (lv' := [(5, .int (nI (i + 1))), (0, .ref (E 0)), (1, .ref a), (2, .int (nI N)), (3, .int (nI (20 * r))), (4, .ref q)]) hx hb dL_feed_66 hl (k := 0) rfl (by rw [← nI_1]; rfl) (by decide) rfl (fun ls hl => ?_)
      refine lv_goto (tgt := 20) hx hb dL_feed_69 (by decide) ?_
      exact ih (i + 1) (by omega) H locs ls hP hD hS (lv_sub hl [0, 1, 2, 3, 4, 5] rfl)
    · have hin : 20 * r + i < N := Nat.lt_of_not_le (fun h => c6 (nI_le h (by omega)))
      refine lv_aload_n hx hb dL_feed_51 rfl (lv_at hl 2 rfl) ?_
      refine lv_iload_n hx hb dL_feed_52 rfl (lv_at hl 4 rfl) ?_
      refine lv_iload hx hb dL_feed_53 (lv_at hl 0 rfl) ?_
      refine lv_iadd hx hb dL_feed_55 ?_
      refine lv_topi (fun x7 ex7 => ?_)
      have ex7 : x7 = nI (20 * r + i) := ex7.trans (nI_add _ _)
      subst ex7
      have hP0 : va_P D vwCl (((q, .inl (Y.1, 5, .inl (fvG (cK t r) i))) :: wd Y E σ 0 LC) ++ []) H := by rw [List.append_nil]; exact hP
      have hD0 : va_D A (((q, .inl (Y.1, 5, .inl (fvG (cK t r) i))) :: wd Y E σ 0 LC) ++ []) := by rw [List.append_nil]; exact hD
      refine g_i (Rs := (q, .inl (Y.1, 5, .inl (fvG (cK t r) i))) :: wd Y E σ 0 LC) (C0 := []) (As := [.ref a, .int (nI (20 * r + i))]) hF hP0 hD0 hS STA_ok (X_at (Rs := (q, .inl (Y.1, 5, .inl (fvG (cK t r) i))) :: wd Y E σ 0 LC) (C0 := []) STA_ok hF hX hD0 hS) (rV (As := [.int (nI (20 * r + i))]) (rest := [.int ((fvG (cK t r) i (i / 4)) <<< (8 &&& 31)), .int (nI (i / 4)), .ref q]) hF hl (cE_charAt (j := 20 * r + i) hsb hlen hN hin _) (cwV 1 hC.2.1 (gi_V (gw_t (tb5 (List.mem_of_getElem? (i := 20) rfl)) rfl) (gw_t (tb5 (List.mem_of_getElem? (i := 21) rfl)) rfl) (gw_t (tb5 (List.mem_of_getElem? (i := 22) rfl)) rfl) (gw_t (tb1 (List.mem_of_getElem? (i := 13) rfl)) rfl) (gw_t (tb5 (List.mem_of_getElem? (i := 23) rfl)) rfl)) rfl rfl rfl ⟨rfl, by decide +kernel, by decide +kernel, by decide +kernel⟩ ⟨(Nat.le_of_ble_eq_true rfl), (Nat.le_of_ble_eq_true rfl)⟩) (sta_cell hX hS) rfl rfl (Nat.le_of_ble_eq_true rfl) dL_feed_56 ⟨hcs.1, hcs.2⟩) (fun rr u H locs hp hP hD hS => ?_)
      have hP : va_P D vwCl ((q, .inl (Y.1, 5, .inl (fvG (cK t r) i))) :: wd Y E σ 0 LC) H := by rw [← List.append_nil ((q, .inl (Y.1, 5, .inl (fvG (cK t r) i))) :: wd Y E σ 0 LC)]; exact hP
      have hD : va_D A ((q, .inl (Y.1, 5, .inl (fvG (cK t r) i))) :: wd Y E σ 0 LC) := by rw [← List.append_nil ((q, .inl (Y.1, 5, .inl (fvG (cK t r) i))) :: wd Y E σ 0 LC)]; exact hD
      have hp : rr = nI (cK t r i) := hp.1
      subst hp
      refine lv_goto (tgt := 64) hx hb dL_feed_59 (by decide) ?_
      refine lv_ior hx hb dL_feed_64 ?_
      refine va_iast hx hb hC.2.2.2.1 hP hD hS 0 0 rfl rfl (vp_in_nI (n := i / 4) (by omega) (by decide)) dL_feed_65 (fun H locs hP hD hS => ?_)
      rw [nI_clamp (n := i / 4) (by omega)] at hP hD
      have hP : va_P D vwCl ((q, .inl (Y.1, 5, .inl (fvG (cK t r) (i + 1)))) :: wd Y E σ 0 LC) H := hP
      have hD : va_D A ((q, .inl (Y.1, 5, .inl (fvG (cK t r) (i + 1)))) :: wd Y E σ 0 LC) := hD
      refine lv_iinc (v := nI (i + 1)) (lv' := [(5, .int (nI (i + 1))), (0, .ref (E 0)), (1, .ref a), (2, .int (nI N)), (3, .int (nI (20 * r))), (4, .ref q)]) hx hb dL_feed_66 hl (k := 0) rfl (by rw [← nI_1]; rfl) (by decide) rfl (fun ls hl => ?_)
      refine lv_goto (tgt := 20) hx hb dL_feed_69 (by decide) ?_
      exact ih (i + 1) (by omega) H locs ls hP hD hS (lv_sub hl [0, 1, 2, 3, 4, 5] rfl)
set_option maxHeartbeats 4000000 in
set_option maxRecDepth 100000 in
theorem fd_k {l : Launch} {D : va_G} {Y : CYs} {p : Program} {e : Env} {s : State} {m : MethodId} {args : Array Value} {below : List Frame} {meth : Method} {c : Code} {A : Nat → Prop} {Q : State → Prop} {E : Nat → Nat} {N a v0 : Nat} {bs : List Int32} {t : List Nat} (hF : GF p s m args meth c yL_feed.cls cL_feed 6 none D Y A) (hX : STA N bs a v0 A s s.heap) (hsb : SB bs t) (hlen : t.length = N) (hN : N ≤ 400) {σ0 : Sta} (kk : ∀ (r : Nat) (σ : Sta) (H : Heap) (locs : List Loc) (ls : Array Slot), N ≤ 20 * r → r ≤ 20 → FD (20 * r) (cB t) σ0 σ → va_P D vwCl (wd Y E σ 0 LC) H → va_D A (wd Y E σ 0 LC) → va_S A s.heap H locs → lv_has ls 6 [(3, .int (nI (20 * r))), (0, .ref (E 0)), (1, .ref a), (2, .int (nI N))] → W p l e rn_L_feed s m args below meth c H locs (20) (100) Q (F0 m 103 ls [])) : ∀ (z r : Nat), r + z = 21 → ∀ (σ : Sta) (H : Heap) (locs : List Loc) (ls : Array Slot), r ≤ 20 → FD (20 * r) (cB t) σ0 σ → va_P D vwCl (wd Y E σ 0 LC) H → va_D A (wd Y E σ 0 LC) → va_S A s.heap H locs → lv_has ls 6 [(3, .int (nI (20 * r))), (0, .ref (E 0)), (1, .ref a), (2, .int (nI N))] → W p l e rn_L_feed s m args below meth c H locs (r) (5 * r) Q (F0 m 7 ls []) := by
  intro z
  induction z with
  | zero =>
    intro r hz σ H locs ls hr20 hfd hP hD hS hl
    omega
  | succ z ih =>
    intro r hz σ H locs ls hr20 hfd hP hD hS hl
    obtain ⟨hC, hb, hml, hr, hlk, hSW, hA⟩ := id hF
    have hx := hC.1
    refine lv_iload_n hx hb dL_feed_7 rfl (lv_at hl 0 rfl) ?_
    refine lv_iload_n hx hb dL_feed_8 rfl (lv_at hl 3 rfl) ?_
    refine lv_icmp_ge (tgt := 103) hx hb dL_feed_9 (by decide) (fun c1 => ?_) (fun c1 => ?_)
    · have hle : N ≤ 20 * r := (nI_leI (a := N) (b := 20 * r) (by omega) (by omega)).mp c1
      refine W.widen (k := 20) (n := 100) (by omega) (by omega) ?_
      exact kk r σ H locs ls hle hr20 hfd hP hD hS (lv_sub hl [0, 1, 2, 3] rfl)
    · have hlt : 20 * r < N := Nat.lt_of_not_le (fun h => c1 (nI_le h (by omega)))
      refine lv_iconst (v := 5) hx hb dL_feed_12 (by decide) ?_
      refine n_arrI (N' := 5) hC hb hP hD hS hA (by decide) (by decide) (Nat.le_of_ble_eq_true rfl) (by show r + 1 ≤ 20; omega) (by show 5 * r + 5 ≤ 100; omega) dL_feed_13 (fun q H hP hD hS => ?_)
      have hP : va_P D vwCl ((wd Y E σ 0 LC ++ [(q, .inl (Y.1, 5, .inl (fun _ => 0)))])) H := hP
      have hD : va_D A ((wd Y E σ 0 LC ++ [(q, .inl (Y.1, 5, .inl (fun _ => 0)))])) := hD
      have hP : va_P D vwCl ((q, .inl (Y.1, 5, .inl (fvG (cK t r) 0))) :: wd Y E σ 0 LC) H := va_P_perm hP (List.perm_append_singleton _ _)
      have hD : va_D A ((q, .inl (Y.1, 5, .inl (fvG (cK t r) 0))) :: wd Y E σ 0 LC) := va_D_perm hD (List.perm_append_singleton _ _)
      refine lv_astore (lv' := [(4, .ref q), (3, .int (nI (20 * r))), (0, .ref (E 0)), (1, .ref a), (2, .int (nI N))]) hx hb dL_feed_15 hl (by decide) rfl (fun ls hl => ?_)
      refine lv_iconst (v := 0) hx hb dL_feed_17 (by decide) ?_
      refine lv_istore (lv' := [(5, .int 0), (4, .ref q), (3, .int (nI (20 * r))), (0, .ref (E 0)), (1, .ref a), (2, .int (nI N))]) hx hb dL_feed_18 hl (by decide) rfl (fun ls hl => ?_)
      refine fd_i hF hX hsb hlen hN hlt ⟨by omega, by omega⟩ (fun H locs ls hP hD hS hl => ?_) 20 0 rfl H locs ls hP hD hS (lv_sub hl [0, 3, 4, 5, 2, 1] rfl)
      refine lv_aload_n hx hb dL_feed_72 rfl (lv_at hl 0 rfl) ?_
      refine lv_aload hx hb dL_feed_73 (lv_at hl 4 rfl) ?_
      refine lv_iconst (v := 0) hx hb dL_feed_75 (by decide) ?_
      refine va_iald hx hb hC.2.2.2.1 hP 0 0 rfl rfl (vp_in_nI (n := 0) (by decide) (by decide)) dL_feed_76 ?_
      refine lv_topi (fun x1 ex1 => ?_)
      have ex1 : x1 = fvG (cK t r) 20 0 := ex1.trans (rfl)
      subst ex1
      refine lv_aload hx hb dL_feed_77 (lv_at hl 4 rfl) ?_
      refine lv_iconst (v := 1) hx hb dL_feed_79 (by decide) ?_
      refine va_iald hx hb hC.2.2.2.1 hP 0 0 rfl rfl (vp_in_nI (n := 1) (by decide) (by decide)) dL_feed_80 ?_
      refine lv_topi (fun x2 ex2 => ?_)
      have ex2 : x2 = fvG (cK t r) 20 1 := ex2.trans (rfl)
      subst ex2
      refine lv_aload hx hb dL_feed_81 (lv_at hl 4 rfl) ?_
      refine lv_iconst (v := 2) hx hb dL_feed_83 (by decide) ?_
      refine va_iald hx hb hC.2.2.2.1 hP 0 0 rfl rfl (vp_in_nI (n := 2) (by decide) (by decide)) dL_feed_84 ?_
      refine lv_topi (fun x3 ex3 => ?_)
      have ex3 : x3 = fvG (cK t r) 20 2 := ex3.trans (rfl)
      subst ex3
      refine lv_aload hx hb dL_feed_85 (lv_at hl 4 rfl) ?_
      refine lv_iconst (v := 3) hx hb dL_feed_87 (by decide) ?_
      refine va_iald hx hb hC.2.2.2.1 hP 0 0 rfl rfl (vp_in_nI (n := 3) (by decide) (by decide)) dL_feed_88 ?_
      refine lv_topi (fun x4 ex4 => ?_)
      have ex4 : x4 = fvG (cK t r) 20 3 := ex4.trans (rfl)
      subst ex4
      refine lv_aload hx hb dL_feed_89 (lv_at hl 4 rfl) ?_
      refine lv_iconst (v := 4) hx hb dL_feed_91 (by decide) ?_
      refine va_iald hx hb hC.2.2.2.1 hP 0 0 rfl rfl (vp_in_nI (n := 4) (by decide) (by decide)) dL_feed_92 ?_
      refine lv_topi (fun x5 ex5 => ?_)
      have ex5 : x5 = fvG (cK t r) 20 4 := ex5.trans (rfl)
      subst ex5
      obtain ⟨σ2, hfe, hfd2⟩ := fd_feed (cc := cK t r) (by omega) hfd (fun x => cB_b hsb _) (fun i _ => rfl)
      refine g_i (Rs := [(q, .inl (Y.1, 5, .inl (fvG (cK t r) 20)))]) (C0 := wd Y E σ 0 LC) (As := [.ref (E 0), .int (fvG (cK t r) 20 0), .int (fvG (cK t r) 20 1), .int (fvG (cK t r) 20 2), .int (fvG (cK t r) 20 3), .int (fvG (cK t r) 20 4)]) hF hP hD hS XN_ok trivial (rV (As := [.int (fvG (cK t r) 20 0), .int (fvG (cK t r) 20 1), .int (fvG (cK t r) 20 2), .int (fvG (cK t r) 20 3), .int (fvG (cK t r) 20 4)]) (rest := []) hF hl (MI_E (c_X8_feed hfe) _) (cwV 5 hC.2.1 (gi_V (gw_t (tb5 (List.mem_of_getElem? (i := 44) rfl)) rfl) (gw_t (tb5 (List.mem_of_getElem? (i := 45) rfl)) rfl) (gw_t (tb5 (List.mem_of_getElem? (i := 46) rfl)) rfl) (gw_t (tb1 (List.mem_of_getElem? (i := 1) rfl)) rfl) (gw_t (tb5 (List.mem_of_getElem? (i := 47) rfl)) rfl)) rfl rfl rfl ⟨rfl, by decide +kernel, by decide +kernel, by decide +kernel⟩ ⟨(Nat.le_of_ble_eq_true rfl), (Nat.le_of_ble_eq_true rfl)⟩) (va_recv hC.2.2.2.1 (ci := 10) (q0 := 0) (tl_P (Rs := [(q, .inl (Y.1, 5, .inl (fvG (cK t r) 20)))]) (C0 := wd Y E σ 0 LC) hP) rfl (wd_at lc_0)) rfl rfl (Nat.le_of_ble_eq_true rfl) dL_feed_93 ⟨(by show r + 1 ≤ 20; omega), (by show 5 * r + 5 ≤ 100; omega)⟩) (fun r1 u H locs hp hP hD hS => ?_)
      obtain ⟨hp1, hp2⟩ := hp
      have hp2 : u = σ2 := hp2
      subst hp2
      have hP : va_P D vwCl (wd Y E u 0 LC) H := tl_P (Rs := [(q, .inl (Y.1, 5, .inl (fvG (cK t r) 20)))]) (C0 := wd Y E u 0 LC) hP
      have hD : va_D A (wd Y E u 0 LC) := tl_D (Rs := [(q, .inl (Y.1, 5, .inl (fvG (cK t r) 20)))]) (C0 := wd Y E u 0 LC) hD
      refine lv_pop hx hb dL_feed_96 rfl ?_
      refine lv_iinc (v := nI (20 * (r + 1))) (lv' := [(3, .int (nI (20 * (r + 1)))), (0, .ref (E 0)), (1, .ref a), (2, .int (nI N)), (4, .ref q)]) hx hb dL_feed_97 hl (k := 3) rfl (by rw [show 20 * (r + 1) = 20 * r + 20 by omega, ← nI_add]; rfl) (by decide) rfl (fun ls hl => ?_)
      refine lv_goto (tgt := 7) hx hb dL_feed_100 (by decide) ?_
      refine W.widen (k := r + 1) (n := 5 * (r + 1)) (by omega) (by omega) ?_
      exact ih (r + 1) (by omega) u H locs ls (by omega) (by rw [show 20 * (r + 1) = 20 * r + 20 by omega]; exact hfd2) hP hD hS (lv_sub hl [0, 1, 2, 3] rfl)
set_option maxHeartbeats 4000000 in
set_option maxRecDepth 100000 in
theorem c_L_feed {l : Launch} {D : va_G} {Y : CYs} {E : Nat → Nat} {σ : Sta} {N a v0 : Nat} {bs : List Int32} {t : List Nat} (hsb : SB bs t) (hlen : t.length = N) (hN : N ≤ 400) (h1 : gI σ 1 = 0) (sz : Nat) : Met l yL_feed (Cond.code yL_feed cL_feed 6 none :: gW) rn_L_feed (PcE (STA N bs a v0) (wd Y E σ 0 LC) Y D sz [.ref (E 0), .ref a]) (GV (S := Sta) (fun u => FE N t σ u) (fun u => wd Y E u 0 LC) Y D (va_A (wd Y E σ 0 LC) sz)) 20 100 (va_A (wd Y E σ 0 LC) sz) := by
  refine Met_ofE (Qc := GV (S := Sta) (fun u => FE N t σ u) (fun u => wd Y E u 0 LC) Y D) (by decide) (Nat.le_of_ble_eq_true rfl) (fun p e s m args below meth c A hF hX hin hP hD hS ls hl => ?_) sz
  obtain ⟨hC, hb, hml, hr, hlk, hSW, hA⟩ := id hF
  have hx := hC.1
  have hl : lv_has ls 6 [(0, .ref (E 0)), (1, .ref a)] := hl
  refine lv_aload_n hx hb dL_feed_0 rfl (lv_at hl 1 rfl) ?_
  have hP0 : va_P D vwCl ((wd Y E σ 0 LC) ++ []) s.heap := by rw [List.append_nil]; exact hP
  have hD0 : va_D A ((wd Y E σ 0 LC) ++ []) := by rw [List.append_nil]; exact hD
  refine g_i (Rs := wd Y E σ 0 LC) (C0 := []) (As := [.ref a]) hF hP0 hD0 hS STA_ok (X_at (Rs := wd Y E σ 0 LC) (C0 := []) STA_ok hF hX hD0 hS) (rV (As := []) (rest := []) hF hl (cE_length _) (cwV 0 hC.2.1 (gi_V (gw_t (tb5 (List.mem_of_getElem? (i := 19) rfl)) rfl) (gw_t (tb4 (List.mem_of_getElem? (i := 108) rfl)) rfl) (gw_t (tb4 (List.mem_of_getElem? (i := 109) rfl)) rfl) (gw_t (tb1 (List.mem_of_getElem? (i := 13) rfl)) rfl) (gw_t (tb4 (List.mem_of_getElem? (i := 110) rfl)) rfl)) rfl rfl rfl ⟨rfl, by decide +kernel, by decide +kernel, by decide +kernel⟩ ⟨(Nat.le_of_ble_eq_true rfl), (Nat.le_of_ble_eq_true rfl)⟩) (sta_cell hX hS) rfl rfl (Nat.le_of_ble_eq_true rfl) dL_feed_1 ⟨(Nat.le_of_ble_eq_true rfl), (Nat.le_of_ble_eq_true rfl)⟩) (fun rr u H locs hp hP hD hS => ?_)
  have hP : va_P D vwCl (wd Y E σ 0 LC) H := by rw [← List.append_nil (wd Y E σ 0 LC)]; exact hP
  have hD : va_D A (wd Y E σ 0 LC) := by rw [← List.append_nil (wd Y E σ 0 LC)]; exact hD
  have hp : rr = nI N := hp.1
  subst hp
  refine lv_istore_n (lv' := [(2, .int (nI N)), (0, .ref (E 0)), (1, .ref a)]) hx hb dL_feed_4 rfl hl (by decide) rfl (fun ls hl => ?_)
  refine lv_iconst (v := 0) hx hb dL_feed_5 (by decide) ?_
  refine lv_topi (fun x1 ex1 => ?_)
  have ex1 : x1 = nI (20 * 0) := ex1.trans (rfl)
  subst ex1
  refine lv_istore_n (lv' := [(3, .int (nI (20 * 0))), (2, .int (nI N)), (0, .ref (E 0)), (1, .ref a)]) hx hb dL_feed_6 rfl hl (by decide) rfl (fun ls hl => ?_)
  refine fd_k (σ0 := σ) hF hX hsb hlen hN (fun r τ H locs ls hle hr20 hfd hP hD hS hl => ?_) 21 0 rfl σ H locs ls (by decide) ⟨h1, fun j hj => absurd hj (Nat.not_lt_zero _), Kp.rfl'⟩ hP hD hS (lv_sub hl [0, 2, 3, 1] rfl)
  have htr := fd_trim hfd.1 hle (by omega)
  refine lv_aload_n hx hb dL_feed_103 rfl (lv_at hl 1 rfl) ?_
  refine lv_iload_n hx hb dL_feed_104 rfl (lv_at hl 3 rfl) ?_
  refine g_i (Rs := []) (C0 := wd Y E τ 0 LC) (As := [.ref (E 0), .int (nI N)]) hF hP hD hS XN_ok trivial (rV (As := [.int (nI N)]) (rest := []) hF hl (MI_E (c_X8_trim htr) _) (cwV 1 hC.2.1 (gi_V (gw_t (tb5 (List.mem_of_getElem? (i := 53) rfl)) rfl) (gw_t (tb5 (List.mem_of_getElem? (i := 54) rfl)) rfl) (gw_t (tb5 (List.mem_of_getElem? (i := 55) rfl)) rfl) (gw_t (tb1 (List.mem_of_getElem? (i := 1) rfl)) rfl) (gw_t (tb5 (List.mem_of_getElem? (i := 56) rfl)) rfl)) rfl rfl rfl ⟨rfl, by decide +kernel, by decide +kernel, by decide +kernel⟩ ⟨(Nat.le_of_ble_eq_true rfl), (Nat.le_of_ble_eq_true rfl)⟩) (va_recv hC.2.2.2.1 (ci := 10) (q0 := 0) (tl_P (Rs := []) (C0 := wd Y E τ 0 LC) hP) rfl (wd_at lc_0)) rfl rfl (Nat.le_of_ble_eq_true rfl) dL_feed_105 ⟨(Nat.le_of_ble_eq_true rfl), (Nat.le_of_ble_eq_true rfl)⟩) (fun r1 u H locs hp hP hD hS => ?_)
  obtain ⟨hp1, hp2⟩ := hp
  have hp2 : u = sI τ 1 (nI N) := hp2
  subst hp2
  refine lv_pop hx hb dL_feed_108 rfl ?_
  exact g_vret (sI τ 1 (nI N)) hF (fd_end hlen hfd hle (cB_b hsb)) hP hD hS dL_feed_109 (Nat.le_of_ble_eq_true rfl) (Nat.le_of_ble_eq_true rfl)
