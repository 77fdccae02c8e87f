/-! The law's loops, over the words that were read (by wip/p32/law.py). -/
set_option maxHeartbeats 4000000 in
set_option maxRecDepth 100000 in
theorem lw_g {l : Launch} {D : va_G} {Y : CYs} {p : Program} {e : Env} {s : State} {m : MethodId} {args : Array Value} {below : List Frame} {meth : Method} {c : Code} {rc : Option FieldType} {A : Nat → Prop} {Q : State → Prop} {E : Nat → Nat} {w : AW} {st b L : Nat} {xs : Nat → Int32} (hF : GF p s m args meth c RL cL_law 18 rc D Y A) (hw : AWok w) (h3 : aNg w = 3) (hSC : SCR b L xs A s s.heap) (hL : L ≤ 260) {wts : Nat → Nat → Int32} {k qw cells slots : Nat} (hk4 : k < 4) (hcs : cells ≤ 600086 ∧ slots ≤ 7301442) (kk : ∀ (σ : Sta) (wt : Nat → Int32) (H : Heap) (locs : List Loc) (ls : Array Slot), SI w st k wts σ → (∀ i, i < 3 → gA σ 9 i = wt i) → va_P D vwCl ((qw, .inl (Y.1, 3, .inl wt)) :: wd Y E σ 0 LC) H → va_D A ((qw, .inl (Y.1, 3, .inl wt)) :: wd Y E σ 0 LC) → va_S A s.heap H locs → lv_has ls 18 [(5, .ref qw), (4, .int (nI k)), (3, .int (nI st)), (0, .ref b), (1, .ref (E 0))] → W p l e room_1 s m args below meth c H locs (cells) (slots) Q (F0 m 112 ls [])) : ∀ (z g : Nat), g + z = 3 → ∀ (σ : Sta) (wt : Nat → Int32) (H : Heap) (locs : List Loc) (ls : Array Slot), SI w st k wts σ → (∀ i, i < g → gA σ 9 i = wt i) → va_P D vwCl ((qw, .inl (Y.1, 3, .inl wt)) :: wd Y E σ 0 LC) H → va_D A ((qw, .inl (Y.1, 3, .inl wt)) :: wd Y E σ 0 LC) → va_S A s.heap H locs → lv_has ls 18 [(6, .int (nI g)), (5, .ref qw), (4, .int (nI k)), (3, .int (nI st)), (0, .ref b), (1, .ref (E 0))] → W p l e room_1 s m args below meth c H locs (cells) (slots) Q (F0 m 61 ls []) := by
  intro z
  induction z with
  | zero =>
    intro g hg σ wt H locs ls hI hwt hP hD hS hl
    obtain ⟨hC, hb, hml, hr, hlk, hSW, hA⟩ := id hF
    have hx := hC.1
    refine lv_iload hx hb dL_law_61 (lv_at hl 0 rfl) ?_
    refine lv_iconst (v := 3) hx hb dL_law_63 (by decide) ?_
    obtain rfl : g = 3 := by omega
    refine lv_icmp_ge (tgt := 112) hx hb dL_law_64 (by decide) (fun c1 => ?_) (fun c1 => False.elim (c1 (by decide)))
    exact kk σ wt H locs ls hI hwt hP hD hS (lv_sub hl [1, 2, 3, 4, 5] rfl)
  | succ z ih =>
    intro g hg σ wt H locs ls hI hwt hP hD hS hl
    obtain ⟨hC, hb, hml, hr, hlk, hSW, hA⟩ := id hF
    have hx := hC.1
    refine lv_iload hx hb dL_law_61 (lv_at hl 0 rfl) ?_
    refine lv_iconst (v := 3) hx hb dL_law_63 (by decide) ?_
    refine lv_icmp_ge (tgt := 112) hx hb dL_law_64 (by decide) (fun c1 => False.elim (nI_ge (a := g) (b := 3) (by omega) (by decide) c1)) (fun c1 => ?_)
    refine lv_aload hx hb dL_law_67 (lv_at hl 1 rfl) ?_
    refine lv_iload hx hb dL_law_69 (lv_at hl 0 rfl) ?_
    refine lv_aload_n hx hb dL_law_71 rfl (lv_at hl 4 rfl) ?_
    refine lv_bipush (v := 6) hx hb dL_law_72 (by decide) ?_
    refine lv_topi (fun x2 ex2 => ?_)
    have ex2 : x2 = nI 6 := ex2.trans (rfl)
    subst ex2
    refine lv_iload hx hb dL_law_74 (lv_at hl 2 rfl) ?_
    refine lv_iadd hx hb dL_law_76 ?_
    refine lv_topi (fun x3 ex3 => ?_)
    have ex3 : x3 = nI (6 + k) := ex3.trans (nI_add _ _)
    subst ex3
    have hP0 : va_P D vwCl (((qw, .inl (Y.1, 3, .inl wt)) :: wd Y E σ 0 LC) ++ []) H := by rw [List.append_nil]; exact hP
    have hD0 : va_D A (((qw, .inl (Y.1, 3, .inl wt)) :: wd Y E σ 0 LC) ++ []) := by rw [List.append_nil]; exact hD
    refine g_i (Rs := (qw, .inl (Y.1, 3, .inl wt)) :: wd Y E σ 0 LC) (C0 := []) (As := [.ref b, .int (nI (6 + k))]) hF hP0 hD0 hS SCR_ok (X_at (Rs := (qw, .inl (Y.1, 3, .inl wt)) :: wd Y E σ 0 LC) (C0 := []) SCR_ok hF hSC hD0 hS) (rS (As := [.ref b, .int (nI (6 + k))]) (rest := [.int (nI g), .ref qw]) hF hl (c_L_cell (kx := 6 + k) hL (by omega) _) ⟨callB_of 2 hC.2.1 (gi_law (gw_t (tb3 (List.mem_of_getElem? (i := 172) rfl)) rfl)) rfl rfl rfl (hC.2.1 (Cond.initialized RL) (gw_t (tb1 (List.mem_of_getElem? (i := 0) rfl)) rfl)) (hC.2.1 (Cond.methodLink RL 50 yL_cell) (gw_t (tb5 (List.mem_of_getElem? (i := 12) rfl)) rfl)) ⟨by decide +kernel, by decide +kernel, by decide +kernel⟩ ⟨(Nat.le_of_ble_eq_true rfl), (Nat.le_of_ble_eq_true rfl)⟩, hC.2.1 (Cond.static yL_cell) (gw_t (tb3 (List.mem_of_getElem? (i := 171) rfl)) rfl)⟩ rfl rfl (Nat.le_of_ble_eq_true rfl) dL_law_77 ⟨hcs.1, hcs.2⟩) (fun xr u_ H locs hp hP hD hS => ?_)
    have hP : va_P D vwCl ((qw, .inl (Y.1, 3, .inl wt)) :: wd Y E σ 0 LC) H := by rw [← List.append_nil ((qw, .inl (Y.1, 3, .inl wt)) :: wd Y E σ 0 LC)]; exact hP
    have hD : va_D A ((qw, .inl (Y.1, 3, .inl wt)) :: wd Y E σ 0 LC) := by rw [← List.append_nil ((qw, .inl (Y.1, 3, .inl wt)) :: wd Y E σ 0 LC)]; exact hD
    refine lv_iconst (v := 3) hx hb dL_law_80 (by decide) ?_
    refine lv_iload hx hb dL_law_81 (lv_at hl 0 rfl) ?_
    refine lv_imul hx hb dL_law_83 ?_
    refine lv_ishr hx hb dL_law_84 ?_
    refine lv_topi (fun xv exv => ?_)
    refine lv_bipush (v := 19) hx hb dL_law_85 (by decide) ?_
    refine lv_topi (fun x4 ex4 => ?_)
    have ex4 : x4 = nI 19 := ex4.trans (rfl)
    subst ex4
    have hP0 : va_P D vwCl (((qw, .inl (Y.1, 3, .inl wt)) :: wd Y E σ 0 LC) ++ []) H := by rw [List.append_nil]; exact hP
    have hD0 : va_D A (((qw, .inl (Y.1, 3, .inl wt)) :: wd Y E σ 0 LC) ++ []) := by rw [List.append_nil]; exact hD
    refine g_i (Rs := (qw, .inl (Y.1, 3, .inl wt)) :: wd Y E σ 0 LC) (C0 := []) (As := [.int xv, .int (nI 19)]) hF hP0 hD0 hS XN_ok trivial (rS (As := [.int xv, .int (nI 19)]) (rest := [.int (nI g), .ref qw]) hF hl (c_L_below (xv := xv) (k1 := 19) (by decide) (by decide) _) ⟨callB_of 2 hC.2.1 (gi_law (gw_t (tb3 (List.mem_of_getElem? (i := 176) rfl)) rfl)) rfl rfl rfl (hC.2.1 (Cond.initialized RL) (gw_t (tb1 (List.mem_of_getElem? (i := 0) rfl)) rfl)) (hC.2.1 (Cond.methodLink RL 54 yL_below) (gw_t (tb5 (List.mem_of_getElem? (i := 11) rfl)) rfl)) ⟨by decide +kernel, by decide +kernel, by decide +kernel⟩ ⟨(Nat.le_of_ble_eq_true rfl), (Nat.le_of_ble_eq_true rfl)⟩, hC.2.1 (Cond.static yL_below) (gw_t (tb3 (List.mem_of_getElem? (i := 175) rfl)) rfl)⟩ rfl rfl (Nat.le_of_ble_eq_true rfl) dL_law_87 ⟨hcs.1, hcs.2⟩) (fun xr2 u_ H locs hp hP hD hS => ?_)
    have hP : va_P D vwCl ((qw, .inl (Y.1, 3, .inl wt)) :: wd Y E σ 0 LC) H := by rw [← List.append_nil ((qw, .inl (Y.1, 3, .inl wt)) :: wd Y E σ 0 LC)]; exact hP
    have hD : va_D A ((qw, .inl (Y.1, 3, .inl wt)) :: wd Y E σ 0 LC) := by rw [← List.append_nil ((qw, .inl (Y.1, 3, .inl wt)) :: wd Y E σ 0 LC)]; exact hD
    obtain ⟨j, hj, hp⟩ := hp
    have hp : xr2 = nI j := hp
    subst hp
    refine lv_bipush (v := 9) hx hb dL_law_90 (by decide) ?_
    refine lv_isub hx hb dL_law_92 ?_
    refine lv_topi (fun x5 ex5 => ?_)
    have ex5 : x5 = nI j - 9 := ex5.trans (rfl)
    subst ex5
    refine va_iast hx hb hC.2.2.2.1 hP hD hS 0 0 rfl rfl (vp_in_nI (n := g) (by omega) (by decide)) dL_law_93 (fun H locs hP hD hS => ?_)
    rw [nI_clamp (n := g) (by omega)] at hP hD
    have hP : va_P D vwCl ((qw, .inl (Y.1, 3, .inl (upd wt g (nI j - 9)))) :: wd Y E σ 0 LC) H := hP
    have hD : va_D A ((qw, .inl (Y.1, 3, .inl (upd wt g (nI j - 9)))) :: wd Y E σ 0 LC) := hD
    refine lv_aload_n hx hb dL_law_94 rfl (lv_at hl 5 rfl) ?_
    refine lv_iload hx hb dL_law_95 (lv_at hl 0 rfl) ?_
    refine lv_aload hx hb dL_law_97 (lv_at hl 1 rfl) ?_
    refine lv_iload hx hb dL_law_99 (lv_at hl 0 rfl) ?_
    refine va_iald hx hb hC.2.2.2.1 hP 0 0 rfl rfl (vp_in_nI (n := g) (by omega) (by decide)) dL_law_101 ?_
    refine lv_topi (fun x6 ex6 => ?_)
    have ex6 : x6 = nI j - 9 := ex6.trans (by rw [nI_clamp (n := g) (by omega)]; exact if_pos rfl)
    subst ex6
    have hq := q_weigh (a := nI j - 9) hw hI.1 (show g < aNg w by omega) (nj9 j hj).1 (nj9 j hj).2
    refine g_i (Rs := [(qw, .inl (Y.1, 3, .inl (upd wt g (nI j - 9))))]) (C0 := wd Y E σ 0 LC) (As := [.ref (E 0), .int (nI g), .int (nI j - 9)]) hF hP hD hS XN_ok trivial (rV (As := [.int (nI g), .int (nI j - 9)]) (rest := []) hF hl (MI_E (c_X8_weigh hq) _) (cwV 2 hC.2.1 (gi_V (gw_t (tb3 (List.mem_of_getElem? (i := 12) rfl)) rfl) (gw_t (tb3 (List.mem_of_getElem? (i := 13) rfl)) rfl) (gw_t (tb3 (List.mem_of_getElem? (i := 14) rfl)) rfl) (gw_t (tb1 (List.mem_of_getElem? (i := 1) rfl)) rfl) (gw_t (tb3 (List.mem_of_getElem? (i := 15) rfl)) rfl)) rfl rfl rfl ⟨rfl, by decide +kernel, by decide +kernel, by decide +kernel⟩ ⟨(Nat.le_of_ble_eq_true rfl), (Nat.le_of_ble_eq_true rfl)⟩) (va_recv hC.2.2.2.1 (ci := 10) (q0 := 0) (tl_P (Rs := [(qw, .inl (Y.1, 3, .inl (upd wt g (nI j - 9))))]) (C0 := wd Y E σ 0 LC) hP) rfl (wd_at lc_0)) rfl rfl (Nat.le_of_ble_eq_true rfl) dL_law_102 ⟨hcs.1, hcs.2⟩) (fun r1 u H locs hp hP hD hS => ?_)
    obtain ⟨hp1, hp2⟩ := hp
    have hp2 : u = sA σ 9 (upd (gA σ 9) g (nI j - 9)) := hp2
    subst hp2
    have hP : va_P D vwCl ((qw, .inl (Y.1, 3, .inl (upd wt g (nI j - 9)))) :: wd Y E (sA σ 9 (upd (gA σ 9) g (nI j - 9))) 0 LC) H := hP
    have hD : va_D A ((qw, .inl (Y.1, 3, .inl (upd wt g (nI j - 9)))) :: wd Y E (sA σ 9 (upd (gA σ 9) g (nI j - 9))) 0 LC) := hD
    refine lv_pop hx hb dL_law_105 rfl ?_
    refine lv_iinc (v := nI (g + 1)) (lv' := [(6, .int (nI (g + 1))), (5, .ref qw), (4, .int (nI k)), (3, .int (nI st)), (0, .ref b), (1, .ref (E 0))]) hx hb dL_law_106 hl (k := 0) rfl (by rw [← nI_1]; rfl) (by decide) rfl (fun ls hl => ?_)
    refine lv_goto (tgt := 61) hx hb dL_law_109 (by decide) ?_
    refine ih (g + 1) (by omega) _ (upd wt g (nI j - 9)) H locs ls (SI_9 hI) (fun i hi => ?_) hP hD hS (lv_sub hl [0, 1, 2, 3, 4, 5] rfl)
    rw [gA_sA, if_pos rfl, upd_at, upd_at]
    by_cases hig : i = g
    · rw [if_pos hig, if_pos hig]
    · rw [if_neg hig, if_neg hig]
      exact hwt i (by omega)
set_option maxHeartbeats 4000000 in
set_option maxRecDepth 100000 in
theorem lw_k {l : Launch} {D : va_G} {Y : CYs} {p : Program} {e : Env} {s : State} {m : MethodId} {args : Array Value} {below : List Frame} {meth : Method} {c : Code} {rc : Option FieldType} {A : Nat → Prop} {Q : State → Prop} {E : Nat → Nat} {w : AW} {st b L : Nat} {xs : Nat → Int32} (hF : GF p s m args meth c RL cL_law 18 rc D Y A) (hw : AWok w) (h3 : aNg w = 3) (hSC : SCR b L xs A s s.heap) (hL : L ≤ 260) (h0 : 0 < aNs w) (s1 : 1 ≤ st) (hst : st ≤ 30) (kk : ∀ (σ : Sta) (wts : Nat → Nat → Int32) (H : Heap) (locs : List Loc) (ls : Array Slot), SI w st 4 wts σ → va_P D vwCl (wd Y E σ 0 LC) H → va_D A (wd Y E σ 0 LC) → va_S A s.heap H locs → lv_has ls 18 [(4, .int (nI 4)), (0, .ref b), (1, .ref (E 0)), (3, .int (nI st))] → W p l e room_1 s m args below meth c H locs (1188 + 4) (163568 + 12) Q (F0 m 489 ls [])) : ∀ (z k : Nat), k + z = 4 → ∀ (σ : Sta) (wts : Nat → Nat → Int32) (H : Heap) (locs : List Loc) (ls : Array Slot), SI w st k wts σ → va_P D vwCl (wd Y E σ 0 LC) H → va_D A (wd Y E σ 0 LC) → va_S A s.heap H locs → lv_has ls 18 [(4, .int (nI k)), (0, .ref b), (1, .ref (E 0)), (3, .int (nI st))] → W p l e room_1 s m args below meth c H locs (1188 + k) (163568 + 3 * k) Q (F0 m 47 ls []) := by
  intro z
  induction z with
  | zero =>
    intro k hk σ wts H locs ls hI hP hD hS hl
    obtain ⟨hC, hb, hml, hr, hlk, hSW, hA⟩ := id hF
    have hx := hC.1
    refine lv_iload hx hb dL_law_47 (lv_at hl 0 rfl) ?_
    refine lv_iconst (v := 4) hx hb dL_law_49 (by decide) ?_
    obtain rfl : k = 4 := by omega
    refine lv_icmp_ge (tgt := 489) hx hb dL_law_50 (by decide) (fun c1 => ?_) (fun c1 => False.elim (c1 (by decide)))
    exact kk σ wts H locs ls hI hP hD hS hl
  | succ z ih =>
    intro k hk σ wts H locs ls hI hP hD hS hl
    obtain ⟨hC, hb, hml, hr, hlk, hSW, hA⟩ := id hF
    have hx := hC.1
    refine lv_iload hx hb dL_law_47 (lv_at hl 0 rfl) ?_
    refine lv_iconst (v := 4) hx hb dL_law_49 (by decide) ?_
    refine lv_icmp_ge (tgt := 489) hx hb dL_law_50 (by decide) (fun c1 => False.elim (nI_ge (a := k) (b := 4) (by omega) (by decide) c1)) (fun c1 => ?_)
    refine lv_iconst (v := 3) hx hb dL_law_53 (by decide) ?_
    refine n_arrI (N' := 3) hC hb hP hD hS hA (by decide) (by decide) (Nat.le_of_ble_eq_true rfl) (by show 1188 + k + 1 ≤ 600086; omega) (by show 163568 + 3 * k + 3 ≤ 7301442; omega) dL_law_54 (fun qw H hP hD hS => ?_)
    have hP : va_P D vwCl ((wd Y E σ 0 LC ++ [(qw, .inl (Y.1, 3, .inl (fun _ => 0)))])) H := hP
    have hD : va_D A ((wd Y E σ 0 LC ++ [(qw, .inl (Y.1, 3, .inl (fun _ => 0)))])) := hD
    have hP : va_P D vwCl ((qw, .inl (Y.1, 3, .inl (fun _ => 0))) :: wd Y E σ 0 LC) H := va_P_perm hP (List.perm_append_singleton _ _)
    have hD : va_D A ((qw, .inl (Y.1, 3, .inl (fun _ => 0))) :: wd Y E σ 0 LC) := va_D_perm hD (List.perm_append_singleton _ _)
    refine lv_astore (lv' := [(5, .ref qw), (4, .int (nI k)), (0, .ref b), (1, .ref (E 0)), (3, .int (nI st))]) hx hb dL_law_56 hl (by decide) rfl (fun ls hl => ?_)
    refine lv_iconst (v := 0) hx hb dL_law_58 (by decide) ?_
    refine lv_istore (lv' := [(6, .int 0), (5, .ref qw), (4, .int (nI k)), (0, .ref b), (1, .ref (E 0)), (3, .int (nI st))]) hx hb dL_law_59 hl (by decide) rfl (fun ls hl => ?_)
    refine lw_g hF hw h3 hSC hL (by omega) ⟨by omega, by omega⟩ (fun σ wt H locs ls hI hwt hP hD hS hl => ?_) 3 0 rfl σ (fun _ => 0) H locs ls hI (fun i hi => absurd hi (Nat.not_lt_zero _)) hP hD hS (lv_sub hl [0, 1, 2, 5, 3, 4] rfl)
    obtain ⟨σ2, e2, hI2⟩ := lb1 (wt := wt) hw h0 h3 hI (by omega) s1 hst hwt
    have hLF : LFr p s m args c D Y E [(qw, .inl (Y.1, 3, .inl wt))] A := ⟨hC, hb, hml, fun τ => rs_D (Rs := [(qw, .inl (Y.1, 3, .inl wt))]) hD τ, hSW, hA⟩
    refine c_LB1 (iw := 0) (qs := b) (qw := qw) (wt := wt) (σ := σ) (o := ((), σ2)) hLF ⟨by show 1188 + k + 1 ≤ 600086; omega, by show 163568 + 3 * k + 3 ≤ 7301442; omega⟩ rfl (fun H locs ls hP hS hl => ?_) e2 hP hS (lv_sub hl [3, 4, 2, 1, 0] rfl)
    have hP : va_P D vwCl (wd Y E σ2 0 LC) H := tl_P (Rs := [(qw, .inl (Y.1, 3, .inl wt))]) (C0 := wd Y E σ2 0 LC) hP
    have hD : va_D A (wd Y E σ2 0 LC) := tl_D (Rs := [(qw, .inl (Y.1, 3, .inl wt))]) (C0 := wd Y E σ2 0 LC) (rs_D (Rs := [(qw, .inl (Y.1, 3, .inl wt))]) hD σ2)
    refine lv_iinc (v := nI (k + 1)) (lv' := [(4, .int (nI (k + 1))), (0, .ref b), (1, .ref (E 0)), (3, .int (nI st))]) hx hb dL_law_483 hl (k := 3) rfl (by rw [← nI_1]; rfl) (by decide) rfl (fun ls hl => ?_)
    refine lv_goto (tgt := 47) hx hb dL_law_486 (by decide) ?_
    refine W.widen (k := 1188 + (k + 1)) (n := 163568 + 3 * (k + 1)) (by omega) (by omega) ?_
    exact ih (k + 1) (by omega) σ2 _ H locs ls hI2 hP hD hS (lv_sub hl [0, 1, 2, 3] rfl)
