/-! The law's loop (by wip/whole/lawloop.py). -/
theorem sub6a : ∀ L, L < 6 → (nI L - 6).toInt = (L : Int) - 6 := by decide +kernel
theorem sub6 : ∀ L, L < 3073 → (nI L - 6).toInt = (L : Int) - 6 := fun L h => by
  by_cases h6 : L < 6
  · exact sub6a L h6
  · rw [nI_subL (show 6 ≤ L by omega), nI_toInt (by omega)]
    omega
set_option maxHeartbeats 4000000 in
set_option maxRecDepth 100000 in
theorem law_step {p : Program} {l : Launch} {e : Env} {s : State} {m : MethodId} {args : Array Value} {below : List Frame} {meth : Method} {c : Code} {H : Heap} {locs : List Loc} {cells slots : Nat} {Q : State → Prop} {D : va_G} {Y : CYs} {cD : ClassId} {b L : Nat} {xs : Nat → Int32} {A : Nat → Prop} {ls : Array Slot} {E Em : Nat → Nat} {qo qd t : Nat} {w : AW} {σ τ : Sta} {f : Nat → Int64} {fd : Nat → UInt64} (hF : LF p l s m args c D Y cD b L xs A) (h : REL w σ τ) (hP : va_P D vwCl (CWl Y cD E Em qo qd σ τ f fd) H) (hD : va_D A (CWl Y cD E Em qo qd σ τ f fd)) (hS : va_S A s.heap H locs) (hl : lv_has ls 9 (LV b qo qd t E Em)) (hj : 6 * t + 6 ≤ L) (hc : cells + 2 ≤ 601024) (hs : slots + 14 ≤ 7293034)
    (kk : ∀ (w : AW) (σ τ : Sta) (f : Nat → Int64) (fd : Nat → UInt64) (H : Heap) (locs : List Loc) (ls : Array Slot), REL w σ τ → va_P D vwCl (CWl Y cD E Em qo qd σ τ f fd) H → va_D A (CWl Y cD E Em qo qd σ τ f fd) → va_S A s.heap H locs → lv_has ls 9 (LV b qo qd t E Em) → W p l e room_1 s m args below meth c H locs (cells + 2) (slots + 14) Q (F0 m 2067 ls [])) : W p l e room_1 s m args below meth c H locs cells slots Q (F0 m 38 ls []) := by
  obtain ⟨hC, hb, hml, hSW, hA, hKD, hX, hbl, hbA, ht, hL⟩ := id hF
  have hx := hC.1
  refine lv_aload_n hx hb dL_law_38 rfl (lv_at hl 0 rfl) ?_
  refine lv_iload hx hb dL_law_39 (lv_at hl 5 rfl) ?_
  refine va_sld hx hb hX hbl hbA hS (nI_in (by omega) (by omega)) dL_law_41 ?_
  refine lv_bipush (v := 31) hx hb dL_law_42 (by decide) ?_
  refine lv_iand hx hb dL_law_44 ?_
  refine lv_topi (fun y ey => ?_)
  by_cases c0 : y = 0
  · refine lv_tableIn (tgt := 176) hx hb dL_law_45 (by rw [c0]; try decide) (by rw [c0]; try decide) (by rw [c0]; try rfl) (by decide) ?_
    exact law_0 hF h hP hD hS hl hj hc hs kk
  by_cases c1 : y = 1
  · refine lv_tableIn (tgt := 280) hx hb dL_law_45 (by rw [c1]; try decide) (by rw [c1]; try decide) (by rw [c1]; try rfl) (by decide) ?_
    exact law_1 hF h hP hD hS hl hj hc hs kk
  by_cases c2 : y = 2
  · refine lv_tableIn (tgt := 336) hx hb dL_law_45 (by rw [c2]; try decide) (by rw [c2]; try decide) (by rw [c2]; try rfl) (by decide) ?_
    exact law_2 hF h hP hD hS hl hj hc hs kk
  by_cases c3 : y = 3
  · refine lv_tableIn (tgt := 349) hx hb dL_law_45 (by rw [c3]; try decide) (by rw [c3]; try decide) (by rw [c3]; try rfl) (by decide) ?_
    exact law_3 hF h hP hD hS hl hj hc hs kk
  by_cases c4 : y = 4
  · refine lv_tableIn (tgt := 362) hx hb dL_law_45 (by rw [c4]; try decide) (by rw [c4]; try decide) (by rw [c4]; try rfl) (by decide) ?_
    exact law_4 hF h hP hD hS hl hj hc hs kk
  by_cases c5 : y = 5
  · refine lv_tableIn (tgt := 418) hx hb dL_law_45 (by rw [c5]; try decide) (by rw [c5]; try decide) (by rw [c5]; try rfl) (by decide) ?_
    exact law_5 hF h hP hD hS hl hj hc hs kk
  by_cases c6 : y = 6
  · refine lv_tableIn (tgt := 474) hx hb dL_law_45 (by rw [c6]; try decide) (by rw [c6]; try decide) (by rw [c6]; try rfl) (by decide) ?_
    exact law_6 hF h hP hD hS hl hj hc hs kk
  by_cases c7 : y = 7
  · refine lv_tableIn (tgt := 488) hx hb dL_law_45 (by rw [c7]; try decide) (by rw [c7]; try decide) (by rw [c7]; try rfl) (by decide) ?_
    exact law_7 hF h hP hD hS hl hj hc hs kk
  by_cases c8 : y = 8
  · refine lv_tableIn (tgt := 556) hx hb dL_law_45 (by rw [c8]; try decide) (by rw [c8]; try decide) (by rw [c8]; try rfl) (by decide) ?_
    exact law_8 hF h hP hD hS hl hj hc hs kk
  by_cases c9 : y = 9
  · refine lv_tableIn (tgt := 612) hx hb dL_law_45 (by rw [c9]; try decide) (by rw [c9]; try decide) (by rw [c9]; try rfl) (by decide) ?_
    exact law_9 hF h hP hD hS hl hj hc hs kk
  by_cases c10 : y = 10
  · refine lv_tableIn (tgt := 692) hx hb dL_law_45 (by rw [c10]; try decide) (by rw [c10]; try decide) (by rw [c10]; try rfl) (by decide) ?_
    exact law_10 hF h hP hD hS hl hj hc hs kk
  by_cases c11 : y = 11
  · refine lv_tableIn (tgt := 771) hx hb dL_law_45 (by rw [c11]; try decide) (by rw [c11]; try decide) (by rw [c11]; try rfl) (by decide) ?_
    exact law_11 hF h hP hD hS hl hj hc hs kk
  by_cases c12 : y = 12
  · refine lv_tableIn (tgt := 879) hx hb dL_law_45 (by rw [c12]; try decide) (by rw [c12]; try decide) (by rw [c12]; try rfl) (by decide) ?_
    exact law_12 hF h hP hD hS hl hj hc hs kk
  by_cases c13 : y = 13
  · refine lv_tableIn (tgt := 947) hx hb dL_law_45 (by rw [c13]; try decide) (by rw [c13]; try decide) (by rw [c13]; try rfl) (by decide) ?_
    exact law_13 hF h hP hD hS hl hj hc hs kk
  by_cases c14 : y = 14
  · refine lv_tableIn (tgt := 1003) hx hb dL_law_45 (by rw [c14]; try decide) (by rw [c14]; try decide) (by rw [c14]; try rfl) (by decide) ?_
    exact law_14 hF h hP hD hS hl hj hc hs kk
  by_cases c15 : y = 15
  · refine lv_tableIn (tgt := 1083) hx hb dL_law_45 (by rw [c15]; try decide) (by rw [c15]; try decide) (by rw [c15]; try rfl) (by decide) ?_
    exact law_15 hF h hP hD hS hl hj hc hs kk
  by_cases c16 : y = 16
  · refine lv_tableIn (tgt := 1162) hx hb dL_law_45 (by rw [c16]; try decide) (by rw [c16]; try decide) (by rw [c16]; try rfl) (by decide) ?_
    exact law_16 hF h hP hD hS hl hj hc hs kk
  by_cases c17 : y = 17
  · refine lv_tableIn (tgt := 1229) hx hb dL_law_45 (by rw [c17]; try decide) (by rw [c17]; try decide) (by rw [c17]; try rfl) (by decide) ?_
    exact law_17 hF h hP hD hS hl hj hc hs kk
  by_cases c18 : y = 18
  · refine lv_tableIn (tgt := 1285) hx hb dL_law_45 (by rw [c18]; try decide) (by rw [c18]; try decide) (by rw [c18]; try rfl) (by decide) ?_
    exact law_18 hF h hP hD hS hl hj hc hs kk
  by_cases c19 : y = 19
  · refine lv_tableIn (tgt := 1348) hx hb dL_law_45 (by rw [c19]; try decide) (by rw [c19]; try decide) (by rw [c19]; try rfl) (by decide) ?_
    exact law_19 hF h hP hD hS hl hj hc hs kk
  by_cases c20 : y = 20
  · refine lv_tableIn (tgt := 1440) hx hb dL_law_45 (by rw [c20]; try decide) (by rw [c20]; try decide) (by rw [c20]; try rfl) (by decide) ?_
    exact law_20 hF h hP hD hS hl hj hc hs kk
  by_cases c21 : y = 21
  · refine lv_tableIn (tgt := 1531) hx hb dL_law_45 (by rw [c21]; try decide) (by rw [c21]; try decide) (by rw [c21]; try rfl) (by decide) ?_
    exact law_21 hF h hP hD hS hl hj hc hs kk
  by_cases c22 : y = 22
  · refine lv_tableIn (tgt := 1643) hx hb dL_law_45 (by rw [c22]; try decide) (by rw [c22]; try decide) (by rw [c22]; try rfl) (by decide) ?_
    exact law_22 hF h hP hD hS hl hj hc hs kk
  by_cases c23 : y = 23
  · refine lv_tableIn (tgt := 1699) hx hb dL_law_45 (by rw [c23]; try decide) (by rw [c23]; try decide) (by rw [c23]; try rfl) (by decide) ?_
    exact law_23 hF h hP hD hS hl hj hc hs kk
  by_cases c24 : y = 24
  · refine lv_tableIn (tgt := 1783) hx hb dL_law_45 (by rw [c24]; try decide) (by rw [c24]; try decide) (by rw [c24]; try rfl) (by decide) ?_
    exact law_24 hF h hP hD hS hl hj hc hs kk
  by_cases c25 : y = 25
  · refine lv_tableIn (tgt := 1841) hx hb dL_law_45 (by rw [c25]; try decide) (by rw [c25]; try decide) (by rw [c25]; try rfl) (by decide) ?_
    exact law_25 hF h hP hD hS hl hj hc hs kk
  by_cases c26 : y = 26
  · refine lv_tableIn (tgt := 1897) hx hb dL_law_45 (by rw [c26]; try decide) (by rw [c26]; try decide) (by rw [c26]; try rfl) (by decide) ?_
    exact law_26 hF h hP hD hS hl hj hc hs kk
  by_cases c27 : y = 27
  · refine lv_tableIn (tgt := 1952) hx hb dL_law_45 (by rw [c27]; try decide) (by rw [c27]; try decide) (by rw [c27]; try rfl) (by decide) ?_
    exact law_27 hF h hP hD hS hl hj hc hs kk
  by_cases c28 : y = 28
  · refine lv_tableIn (tgt := 2053) hx hb dL_law_45 (by rw [c28]; try decide) (by rw [c28]; try decide) (by rw [c28]; try rfl) (by decide) ?_
    exact law_28 hF h hP hD hS hl hj hc hs kk
  refine lv_tableOut (tgt := 2067) hx hb dL_law_45 (by have n0 := lv_neT (a := 0) c0 (by decide); have n1 := lv_neT (a := 1) c1 (by decide); have n2 := lv_neT (a := 2) c2 (by decide); have n3 := lv_neT (a := 3) c3 (by decide); have n4 := lv_neT (a := 4) c4 (by decide); have n5 := lv_neT (a := 5) c5 (by decide); have n6 := lv_neT (a := 6) c6 (by decide); have n7 := lv_neT (a := 7) c7 (by decide); have n8 := lv_neT (a := 8) c8 (by decide); have n9 := lv_neT (a := 9) c9 (by decide); have n10 := lv_neT (a := 10) c10 (by decide); have n11 := lv_neT (a := 11) c11 (by decide); have n12 := lv_neT (a := 12) c12 (by decide); have n13 := lv_neT (a := 13) c13 (by decide); have n14 := lv_neT (a := 14) c14 (by decide); have n15 := lv_neT (a := 15) c15 (by decide); have n16 := lv_neT (a := 16) c16 (by decide); have n17 := lv_neT (a := 17) c17 (by decide); have n18 := lv_neT (a := 18) c18 (by decide); have n19 := lv_neT (a := 19) c19 (by decide); have n20 := lv_neT (a := 20) c20 (by decide); have n21 := lv_neT (a := 21) c21 (by decide); have n22 := lv_neT (a := 22) c22 (by decide); have n23 := lv_neT (a := 23) c23 (by decide); have n24 := lv_neT (a := 24) c24 (by decide); have n25 := lv_neT (a := 25) c25 (by decide); have n26 := lv_neT (a := 26) c26 (by decide); have n27 := lv_neT (a := 27) c27 (by decide); have n28 := lv_neT (a := 28) c28 (by decide); omega) (by decide) ?_
  refine W.widen (k := cells + 2) (n := slots + 14) (by omega) (by omega) ?_
  exact kk w σ τ f fd H locs ls h hP hD hS hl
set_option maxHeartbeats 4000000 in
theorem law_loop {p : Program} {l : Launch} {e : Env} {s : State} {m : MethodId} {args : Array Value} {below : List Frame} {meth : Method} {c : Code} {Q : State → Prop} {D : va_G} {Y : CYs} {cD : ClassId} {b L : Nat} {xs : Nat → Int32} {A : Nat → Prop} {E Em : Nat → Nat} {qo qd : Nat} {K0 S0 : Nat} (hK0 : K0 + 2000 ≤ 601024) (hS0 : S0 + 10000 ≤ 7293034) (hF : LF p l s m args c D Y cD b L xs A)
    (kk : ∀ (H : Heap) (locs : List Loc) (ls : Array Slot) (cells slots : Nat), va_S A s.heap H locs → cells ≤ 601024 → slots ≤ 7293034 → W p l e room_1 s m args below meth c H locs cells slots Q (F0 m 2073 ls [])) :
    ∀ (r t : Nat) (w : AW) (σ τ : Sta) (f : Nat → Int64) (fd : Nat → UInt64) (H : Heap) (locs : List Loc) (ls : Array Slot), t ≤ 512 → L < 6 * t + 6 + 6 * r → REL w σ τ → va_P D vwCl (CWl Y cD E Em qo qd σ τ f fd) H → va_D A (CWl Y cD E Em qo qd σ τ f fd) → va_S A s.heap H locs → lv_has ls 9 (LV b qo qd t E Em) →
      W p l e room_1 s m args below meth c H locs (K0 + 2 * t) (S0 + 14 * t) Q (F0 m 28 ls []) := by
  obtain ⟨hC, hb, hml, hSW, hA, hKD, hX, hbl, hbA, ht0, hL⟩ := id hF
  have hx := hC.1
  intro r
  induction r with
  | zero =>
    intro t w σ τ f fd H locs ls ht hr h hP hD hS hl
    refine lv_iload hx hb dL_law_28 (lv_at hl 5 rfl) ?_
    refine lv_aload_n hx hb dL_law_30 rfl (lv_at hl 0 rfl) ?_
    refine va_slen hx hb hX hbl hbA hS dL_law_31 ?_
    refine lv_bipush (v := 6) hx hb dL_law_32 (by decide) ?_
    refine lv_isub hx hb dL_law_34 ?_
    refine lv_icmp_gt (tgt := 2073) hx hb dL_law_35 (by decide) (fun _ => kk H locs ls _ _ hS (by omega) (by omega)) (fun c1 => absurd ?_ c1)
    show nI L - 6 < nI (6 * t)
    rw [Int32.lt_iff_toInt_lt, sub6 L (by omega), nI_toInt (by omega)]
    omega
  | succ r ih =>
    intro t w σ τ f fd H locs ls ht hr h hP hD hS hl
    refine lv_iload hx hb dL_law_28 (lv_at hl 5 rfl) ?_
    refine lv_aload_n hx hb dL_law_30 rfl (lv_at hl 0 rfl) ?_
    refine va_slen hx hb hX hbl hbA hS dL_law_31 ?_
    refine lv_bipush (v := 6) hx hb dL_law_32 (by decide) ?_
    refine lv_isub hx hb dL_law_34 ?_
    refine lv_icmp_gt (tgt := 2073) hx hb dL_law_35 (by decide) (fun _ => kk H locs ls _ _ hS (by omega) (by omega)) (fun c1 => ?_)
    have c1 : ¬ nI L - 6 < nI (6 * t) := c1
    rw [Int32.lt_iff_toInt_lt, sub6 L (by omega), nI_toInt (by omega)] at c1
    refine law_step hF h hP hD hS hl (by omega) (by omega) (by omega) (fun w σ τ f fd H locs ls h hP hD hS hl => ?_)
    have hl : lv_has ls 9 [(0, .ref b), (1, .ref (E 0)), (2, .ref (Em 0)), (3, .ref qo), (4, .ref qd), (5, .int (nI (6 * t)))] := hl
    refine lv_iinc (v := nI (6 * (t + 1))) (lv' := [(5, .int (nI (6 * (t + 1)))), (0, .ref b), (1, .ref (E 0)), (2, .ref (Em 0)), (3, .ref qo), (4, .ref qd)]) hx hb dL_law_2067 hl (k := 5) rfl (by rw [show 6 * (t + 1) = 6 * t + 6 by omega, ← nI_add]; rfl) (by decide) rfl (fun ls hl => ?_)
    refine lv_goto (tgt := 28) hx hb dL_law_2070 (by decide) ?_
    rw [show K0 + 2 * t + 2 = K0 + 2 * (t + 1) by omega, show S0 + 14 * t + 14 = S0 + 14 * (t + 1) by omega]
    exact ih (t + 1) w σ τ f fd H locs ls (by omega) (by omega) h hP hD hS (lv_sub hl [1, 2, 3, 4, 5, 0] rfl)
