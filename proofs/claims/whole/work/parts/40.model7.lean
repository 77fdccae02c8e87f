theorem gf_X10_122 {p : Program} {l : Launch} {e : Env} {R : Room} {s : State} {m : MethodId} {args : Array Value} {below : List Frame} {meth : Method} {c : Code} {H : Heap} {locs : List Loc} {cells slots : Nat} {Q : State → Prop} {D : va_G} {Y : CYs} {E : Nat → Nat} {σ : Sta} {cc : ByteArray} {pc : Nat} {ls : Array Slot} {rest : List Value} {X : List Dsc} (hC : Ctx p s m args RX10 D Y) (hb : c.code = cc) (hP : va_P D vwCl (wd Y E σ 0 (LM ++ X)) H) (hdg : decode cc pc = .ok (.getfield 122, 3)) (kk : W p l e R s m args below meth c H locs cells slots Q (F0 m (pc + 3) ls (.ref (E 36) :: rest))) : W p l e R s m args below meth c H locs cells slots Q (F0 m pc ls (.ref (E 0) :: rest)) :=
  x_getR hC hb hP inGX10 (lm_0 X) rfl 54 (by decide) rfl (gw_t (tb6 (List.mem_of_getElem? (i := 98) rfl)) rfl) rfl hdg kk
theorem gf_X10_103 {p : Program} {l : Launch} {e : Env} {R : Room} {s : State} {m : MethodId} {args : Array Value} {below : List Frame} {meth : Method} {c : Code} {H : Heap} {locs : List Loc} {cells slots : Nat} {Q : State → Prop} {D : va_G} {Y : CYs} {E : Nat → Nat} {σ : Sta} {cc : ByteArray} {pc : Nat} {ls : Array Slot} {rest : List Value} {X : List Dsc} (hC : Ctx p s m args RX10 D Y) (hb : c.code = cc) (hP : va_P D vwCl (wd Y E σ 0 (LM ++ X)) H) (hdg : decode cc pc = .ok (.getfield 103, 3)) (kk : W p l e R s m args below meth c H locs cells slots Q (F0 m (pc + 3) ls (.ref (E 30) :: rest))) : W p l e R s m args below meth c H locs cells slots Q (F0 m pc ls (.ref (E 0) :: rest)) :=
  x_getR hC hb hP inGX10 (lm_0 X) rfl 48 (by decide) rfl (gw_t (tb6 (List.mem_of_getElem? (i := 92) rfl)) rfl) rfl hdg kk
theorem gf_X10_119 {p : Program} {l : Launch} {e : Env} {R : Room} {s : State} {m : MethodId} {args : Array Value} {below : List Frame} {meth : Method} {c : Code} {H : Heap} {locs : List Loc} {cells slots : Nat} {Q : State → Prop} {D : va_G} {Y : CYs} {E : Nat → Nat} {σ : Sta} {cc : ByteArray} {pc : Nat} {ls : Array Slot} {rest : List Value} {X : List Dsc} (hC : Ctx p s m args RX10 D Y) (hb : c.code = cc) (hP : va_P D vwCl (wd Y E σ 0 (LM ++ X)) H) (hdg : decode cc pc = .ok (.getfield 119, 3)) (kk : W p l e R s m args below meth c H locs cells slots Q (F0 m (pc + 3) ls (.ref (E 35) :: rest))) : W p l e R s m args below meth c H locs cells slots Q (F0 m pc ls (.ref (E 0) :: rest)) :=
  x_getR hC hb hP inGX10 (lm_0 X) rfl 53 (by decide) rfl (gw_t (tb6 (List.mem_of_getElem? (i := 97) rfl)) rfl) rfl hdg kk
theorem gf_X10_107 {p : Program} {l : Launch} {e : Env} {R : Room} {s : State} {m : MethodId} {args : Array Value} {below : List Frame} {meth : Method} {c : Code} {H : Heap} {locs : List Loc} {cells slots : Nat} {Q : State → Prop} {D : va_G} {Y : CYs} {E : Nat → Nat} {σ : Sta} {cc : ByteArray} {pc : Nat} {ls : Array Slot} {rest : List Value} {X : List Dsc} (hC : Ctx p s m args RX10 D Y) (hb : c.code = cc) (hP : va_P D vwCl (wd Y E σ 0 (LM ++ X)) H) (hdg : decode cc pc = .ok (.getfield 107, 3)) (kk : W p l e R s m args below meth c H locs cells slots Q (F0 m (pc + 3) ls (.ref (E 31) :: rest))) : W p l e R s m args below meth c H locs cells slots Q (F0 m pc ls (.ref (E 0) :: rest)) :=
  x_getR hC hb hP inGX10 (lm_0 X) rfl 49 (by decide) rfl (gw_t (tb6 (List.mem_of_getElem? (i := 93) rfl)) rfl) rfl hdg kk
theorem cw_X10_410 {R : Room} {p : Program} {s : State} {m : MethodId} {args : Array Value} {D : va_G} {Y : CYs} {rm : Room} (hC : Ctx p s m args RX10 D Y) (hrc : rm.cells = 0) (hrs : rm.slots = 0) (hR : rm.frames + 1 ≤ R.frames ∧ 8 + (7 + 11) + rm.locals ≤ R.locals) : CallW R s args RX10 RX10 410 yX10_expected cX10_expected 7 (some .long) (Cond.code yX10_expected cX10_expected 7 (some .long) :: gW) rm 0 0 3 :=
  cwV 3 hC.2.1 (gi_V (gw_t (tb8 (List.mem_of_getElem? (i := 45) rfl)) rfl) (gw_t (tb8 (List.mem_of_getElem? (i := 47) rfl)) rfl) (gw_s (q := (⟨"MarkovBenchModel", "expected", "(I[JI)J"⟩, 57)) (lp7_ (List.mem_of_getElem? (i := 10) rfl))) (gw_t (tb1 (List.mem_of_getElem? (i := 10) rfl)) rfl) (gw_t (tb8 (List.mem_of_getElem? (i := 48) rfl)) rfl)) rfl hrc hrs ⟨rfl, by decide +kernel, by decide +kernel, by decide +kernel⟩ hR
theorem gf_X10_110 {p : Program} {l : Launch} {e : Env} {R : Room} {s : State} {m : MethodId} {args : Array Value} {below : List Frame} {meth : Method} {c : Code} {H : Heap} {locs : List Loc} {cells slots : Nat} {Q : State → Prop} {D : va_G} {Y : CYs} {E : Nat → Nat} {σ : Sta} {cc : ByteArray} {pc : Nat} {ls : Array Slot} {rest : List Value} {X : List Dsc} (hC : Ctx p s m args RX10 D Y) (hb : c.code = cc) (hP : va_P D vwCl (wd Y E σ 0 (LM ++ X)) H) (hdg : decode cc pc = .ok (.getfield 110, 3)) (kk : W p l e R s m args below meth c H locs cells slots Q (F0 m (pc + 3) ls (.ref (E 32) :: rest))) : W p l e R s m args below meth c H locs cells slots Q (F0 m pc ls (.ref (E 0) :: rest)) :=
  x_getR hC hb hP inGX10 (lm_0 X) rfl 50 (by decide) rfl (gw_t (tb6 (List.mem_of_getElem? (i := 94) rfl)) rfl) rfl hdg kk
theorem gf_X10_116 {p : Program} {l : Launch} {e : Env} {R : Room} {s : State} {m : MethodId} {args : Array Value} {below : List Frame} {meth : Method} {c : Code} {H : Heap} {locs : List Loc} {cells slots : Nat} {Q : State → Prop} {D : va_G} {Y : CYs} {E : Nat → Nat} {σ : Sta} {cc : ByteArray} {pc : Nat} {ls : Array Slot} {rest : List Value} {X : List Dsc} (hC : Ctx p s m args RX10 D Y) (hb : c.code = cc) (hP : va_P D vwCl (wd Y E σ 0 (LM ++ X)) H) (hdg : decode cc pc = .ok (.getfield 116, 3)) (kk : W p l e R s m args below meth c H locs cells slots Q (F0 m (pc + 3) ls (.ref (E 34) :: rest))) : W p l e R s m args below meth c H locs cells slots Q (F0 m pc ls (.ref (E 0) :: rest)) :=
  x_getR hC hb hP inGX10 (lm_0 X) rfl 52 (by decide) rfl (gw_t (tb6 (List.mem_of_getElem? (i := 96) rfl)) rfl) rfl hdg kk
theorem cw_X10_414 {R : Room} {p : Program} {s : State} {m : MethodId} {args : Array Value} {D : va_G} {Y : CYs} {rm : Room} (hC : Ctx p s m args RX10 D Y) (hrc : rm.cells = 0) (hrs : rm.slots = 0) (hR : rm.frames + 1 ≤ R.frames ∧ 8 + (7 + 11) + rm.locals ≤ R.locals) : CallW R s args RX10 RX10 414 yX10_follow cX10_follow 7 (some .long) (Cond.code yX10_follow cX10_follow 7 (some .long) :: gW) rm 0 0 2 :=
  cwV 2 hC.2.1 (gi_V (gw_t (tb8 (List.mem_of_getElem? (i := 49) rfl)) rfl) (gw_t (tb8 (List.mem_of_getElem? (i := 51) rfl)) rfl) (gw_s (q := (⟨"MarkovBenchModel", "follow", "(II)J"⟩, 57)) (lp7_ (List.mem_of_getElem? (i := 11) rfl))) (gw_t (tb1 (List.mem_of_getElem? (i := 10) rfl)) rfl) (gw_t (tb8 (List.mem_of_getElem? (i := 52) rfl)) rfl)) rfl hrc hrs ⟨rfl, by decide +kernel, by decide +kernel, by decide +kernel⟩ hR
theorem gf_X10_113 {p : Program} {l : Launch} {e : Env} {R : Room} {s : State} {m : MethodId} {args : Array Value} {below : List Frame} {meth : Method} {c : Code} {H : Heap} {locs : List Loc} {cells slots : Nat} {Q : State → Prop} {D : va_G} {Y : CYs} {E : Nat → Nat} {σ : Sta} {cc : ByteArray} {pc : Nat} {ls : Array Slot} {rest : List Value} {X : List Dsc} (hC : Ctx p s m args RX10 D Y) (hb : c.code = cc) (hP : va_P D vwCl (wd Y E σ 0 (LM ++ X)) H) (hdg : decode cc pc = .ok (.getfield 113, 3)) (kk : W p l e R s m args below meth c H locs cells slots Q (F0 m (pc + 3) ls (.ref (E 33) :: rest))) : W p l e R s m args below meth c H locs cells slots Q (F0 m pc ls (.ref (E 0) :: rest)) :=
  x_getR hC hb hP inGX10 (lm_0 X) rfl 51 (by decide) rfl (gw_t (tb6 (List.mem_of_getElem? (i := 95) rfl)) rfl) rfl hdg kk
theorem cw_X10_419 {R : Room} {p : Program} {s : State} {m : MethodId} {args : Array Value} {D : va_G} {Y : CYs} {rm : Room} (hC : Ctx p s m args RX10 D Y) (hrc : rm.cells = 0) (hrs : rm.slots = 0) (hR : rm.frames + 1 ≤ R.frames ∧ 8 + (2 + 11) + rm.locals ≤ R.locals) : CallW R s args RX10 RX10 419 yX10_isGain cX10_isGain 2 (some .boolean) (Cond.code yX10_isGain cX10_isGain 2 (some .boolean) :: gW) rm 0 0 1 :=
  cwV 1 hC.2.1 (gi_V (gw_t (tb8 (List.mem_of_getElem? (i := 29) rfl)) rfl) (gw_t (tb8 (List.mem_of_getElem? (i := 31) rfl)) rfl) (gw_s (q := (⟨"MarkovBenchModel", "isGain", "(I)Z"⟩, 57)) (lp7_ (List.mem_of_getElem? (i := 8) rfl))) (gw_t (tb1 (List.mem_of_getElem? (i := 10) rfl)) rfl) (gw_t (tb8 (List.mem_of_getElem? (i := 32) rfl)) rfl)) rfl hrc hrs ⟨rfl, by decide +kernel, by decide +kernel, by decide +kernel⟩ hR
theorem cw_X10_428 {R : Room} {p : Program} {s : State} {m : MethodId} {args : Array Value} {D : va_G} {Y : CYs} {rm : Room} (hC : Ctx p s m args RX10 D Y) (hrc : rm.cells = 0) (hrs : rm.slots = 0) (hR : rm.frames + 1 ≤ R.frames ∧ 8 + (12 + 11) + rm.locals ≤ R.locals) : CallW R s args RX10 RX10 428 yX10_make cX10_make 12 none (Cond.code yX10_make cX10_make 12 none :: gW) rm 0 0 3 :=
  cwV 3 hC.2.1 (gi_V (gw_t (tb8 (List.mem_of_getElem? (i := 40) rfl)) rfl) (gw_t (tb8 (List.mem_of_getElem? (i := 42) rfl)) rfl) (gw_s (q := (⟨"MarkovBenchModel", "make", "(I[II)V"⟩, 57)) (lp7_ (List.mem_of_getElem? (i := 9) rfl))) (gw_t (tb1 (List.mem_of_getElem? (i := 10) rfl)) rfl) (gw_t (tb8 (List.mem_of_getElem? (i := 43) rfl)) rfl)) rfl hrc hrs ⟨rfl, by decide +kernel, by decide +kernel, by decide +kernel⟩ hR
theorem cw_X10_432 {R : Room} {p : Program} {s : State} {m : MethodId} {args : Array Value} {D : va_G} {Y : CYs} {rm : Room} (hC : Ctx p s m args RX10 D Y) (hrc : rm.cells = 0) (hrs : rm.slots = 0) (hR : rm.frames + 1 ≤ R.frames ∧ 8 + (2 + 11) + rm.locals ≤ R.locals) : CallW R s args RX10 RX10 432 yX10_isStrategy cX10_isStrategy 2 (some .boolean) (Cond.code yX10_isStrategy cX10_isStrategy 2 (some .boolean) :: gW) rm 0 0 1 :=
  cwV 1 hC.2.1 (gi_V (gw_t (tb8 (List.mem_of_getElem? (i := 58) rfl)) rfl) (gw_t (tb8 (List.mem_of_getElem? (i := 60) rfl)) rfl) (gw_s (q := (⟨"MarkovBenchModel", "isStrategy", "(I)Z"⟩, 57)) (lp7_ (List.mem_of_getElem? (i := 12) rfl))) (gw_t (tb1 (List.mem_of_getElem? (i := 10) rfl)) rfl) (gw_t (tb8 (List.mem_of_getElem? (i := 61) rfl)) rfl)) rfl hrc hrs ⟨rfl, by decide +kernel, by decide +kernel, by decide +kernel⟩ hR
abbrev rm_X10_expected : Room := { frames := 1, cells := 0, slots := 0, locals := 22 }
def f_X10_expected_6 (q2 n2 : Nat) : Nat → Int32 → Int32 → Int64 → Int32 → Sta → Option (Int64 × Sta)
  | 0, _, _, _, _, _ => none
  | n + 1, v1, v3, v4, v6, σ => bnd (f_X10_manyBranches v1 σ) (fun r1 σ2 =>
    if r1 ≤ v6 then
      some (v4 / 100, σ2)
    else
      bnd (f_X10_chanceOf v1 v6 σ2) (fun r5 σ6 =>
      if (4 * v1) + v6 < 0 ∨ 6400 ≤ (((4 * v1) + v6).toNatClampNeg) then none else (
      if v3 + (gA σ6 26 (((4 * v1) + v6).toNatClampNeg)) < 0 ∨ n2 ≤ ((v3 + (gA σ6 26 (((4 * v1) + v6).toNatClampNeg))).toNatClampNeg) then none else (
      lt (v4 + (r5.toInt64 * (gJ σ6 q2 ((v3 + (gA σ6 26 (((4 * v1) + v6).toNatClampNeg))).toNatClampNeg)))) (fun x10 =>
      lt (v6 + 1) (fun x11 =>
      f_X10_expected_6 q2 n2 n v1 v3 x10 x11 σ6))))))
set_option maxHeartbeats 4000000 in
set_option maxRecDepth 100000 in
theorem t_X10_expected_6 {l : Launch} {D : va_G} {Y : CYs} {E : Nat → Nat} {X : List Dsc} (hX : Lok (LM ++ X)) {p : Program} {e : Env} {s : State} {m : MethodId} {args : Array Value} {below : List Frame} {meth : Method} {c : Code} {q2 n2 : Nat} {z2 : List (Nat × Nat)} (hq2 : (LM ++ X)[q2]? = some (2, n2, z2)) (hF : Fr p s m args meth c RX10 cX10_expected 7 (some .long) D Y E (LM ++ X)) {o : Int64 × Sta} : ∀ (n : Nat) (v1 : Int32) (v3 : Int32) (v4 : Int64) (v6 : Int32) (σ : Sta) (H : Heap) (locs : List Loc) (ls : Array Slot), f_X10_expected_6 q2 n2 n v1 v3 v4 v6 σ = some o → va_P D vwCl (wd Y E σ 0 (LM ++ X)) H → va_S (AF E (LM ++ X).length s.heap.size) s.heap H locs → lv_has ls 7 [(0, .ref (E 0)), (1, .int v1), (2, .ref (E q2)), (3, .int v3), (4, .long v4), (6, .int v6)] → WL p l e rm_X10_expected s m args below meth c (LM ++ X) Y D E o H locs (F0 m 6 ls []) := by
  intro n
  induction n with
  | zero =>
    intro v1 v3 v4 v6 σ H locs ls h hP hS hl
    exact nomatch (show (none : Option (Int64 × Sta)) = some o from h)
  | succ n ih =>
    intro v1 v3 v4 v6 σ H locs ls h hP hS hl
    rw [f_X10_expected_6] at h
    obtain ⟨hC, hb, hml, hr, hlk, hD, hSW⟩ := id hF
    have hx := hC.1
    refine lv_iload hx hb dX10_expected_6 (lv_at hl 5 rfl) ?_
    refine lv_aload_n hx hb dX10_expected_8 rfl (lv_at hl 0 rfl) ?_
    refine lv_iload_n hx hb dX10_expected_9 rfl (lv_at hl 1 rfl) ?_
    obtain ⟨r1, σ2, g3, h⟩ := of_bnd h
    refine x_VI (As := [.int v1]) (rest := [.int v6]) hF hl hP hS (c_X10_manyBranches hX g3) (cw_X10_402 hC rfl rfl ⟨Nat.le_of_ble_eq_true rfl, Nat.le_of_ble_eq_true rfl⟩) (lm_0 X) rfl rfl rfl (Nat.le_of_ble_eq_true rfl) dX10_expected_10 ⟨Nat.zero_le _, Nat.zero_le _⟩ (fun H locs hP hS => ?_)
    refine lv_icmp_ge (tgt := 51) hx hb dX10_expected_13 (by decide) (fun c4 => ?_) (fun c4 => ?_)
    · have h := of_t h c4
      refine lv_lload hx hb dX10_expected_51 (lv_at hl 4 rfl) ?_
      refine lv_ldc2 (v := 100) hx hb hC.2.2.1 (hC.2.1 (Cond.constantLong RX10 328 100) (gw_t (tb7 (List.mem_of_getElem? (i := 177) rfl)) rfl)) dX10_expected_53 ?_
      refine lv_ldiv hx hb dX10_expected_56 (by decide) ?_
      exact x_lret hF hP hS h dX10_expected_57
    · have h := of_f h c4
      refine lv_lload hx hb dX10_expected_16 (lv_at hl 4 rfl) ?_
      refine lv_aload_n hx hb dX10_expected_18 rfl (lv_at hl 0 rfl) ?_
      refine lv_iload_n hx hb dX10_expected_19 rfl (lv_at hl 1 rfl) ?_
      refine lv_iload hx hb dX10_expected_20 (lv_at hl 5 rfl) ?_
      obtain ⟨r5, σ6, g7, h⟩ := of_bnd h
      refine x_VI (As := [.int v1, .int v6]) (rest := [.long v4]) hF hl hP hS (c_X10_chanceOf hX g7) (cw_X10_405 hC rfl rfl ⟨Nat.le_of_ble_eq_true rfl, Nat.le_of_ble_eq_true rfl⟩) (lm_0 X) rfl rfl rfl (Nat.le_of_ble_eq_true rfl) dX10_expected_22 ⟨Nat.zero_le _, Nat.zero_le _⟩ (fun H locs hP hS => ?_)
      refine lv_i2l (v := r5.toInt64) hx hb dX10_expected_25 rfl ?_
      refine lv_aload_n hx hb dX10_expected_26 rfl (lv_at hl 2 rfl) ?_
      refine lv_iload_n hx hb dX10_expected_27 rfl (lv_at hl 3 rfl) ?_
      refine lv_aload_n hx hb dX10_expected_28 rfl (lv_at hl 0 rfl) ?_
      refine gf_X10_91 hC hb hP dX10_expected_29 ?_
      refine lv_iconst (v := 4) hx hb dX10_expected_32 (by decide) ?_
      refine lv_iload_n hx hb dX10_expected_33 rfl (lv_at hl 1 rfl) ?_
      refine lv_imul hx hb dX10_expected_34 ?_
      refine lv_iload hx hb dX10_expected_35 (lv_at hl 5 rfl) ?_
      refine lv_iadd hx hb dX10_expected_37 ?_
      obtain ⟨g8, h⟩ := of_gd h
      refine x_iald hC hb hP (lm_26 X) g8 dX10_expected_38 ?_
      refine lv_iadd hx hb dX10_expected_39 ?_
      obtain ⟨g9, h⟩ := of_gd h
      refine x_lald hC hb hP hq2 g9 dX10_expected_40 ?_
      refine lv_lmul hx hb dX10_expected_41 ?_
      refine lv_ladd hx hb dX10_expected_42 ?_
      refine lv_topl (fun x10 ex10 => ?_)
      have h := of_lt h ex10
      refine lv_lstore (lv' := [(4, .long x10), (0, .ref (E 0)), (1, .int v1), (2, .ref (E q2)), (3, .int v3), (6, .int v6)]) hx hb dX10_expected_43 hl (by decide) rfl (fun ls hl => ?_)
      obtain ⟨x11, ex11⟩ : ∃ y : Int32, y = v6 + 1 := ⟨_, rfl⟩
      have h := of_lt h ex11
      refine lv_iinc (v := x11) (lv' := [(6, .int x11), (4, .long x10), (0, .ref (E 0)), (1, .int v1), (2, .ref (E q2)), (3, .int v3)]) hx hb dX10_expected_45 hl (k := 5) rfl (by rw [ex11]; rfl) (by decide) rfl (fun ls hl => ?_)
      refine lv_goto (tgt := 6) hx hb dX10_expected_48 (by decide) ?_
      exact ih v1 v3 x10 x11 σ6 _ _ _ h hP hS (lv_sub hl [2, 3, 4, 5, 1, 0] rfl)

def f_X10_expected (a1 : Int32) (q2 n2 : Nat) (a3 : Int32) (σ : Sta) : Option (Int64 × Sta) :=
  f_X10_expected_6 q2 n2 FU a1 a3 0 0 σ
set_option maxHeartbeats 4000000 in
set_option maxRecDepth 100000 in
theorem c_X10_expected {l : Launch} {D : va_G} {Y : CYs} {E : Nat → Nat} {X : List Dsc} (hX : Lok (LM ++ X)) {a1 : Int32} {q2 n2 : Nat} {a3 : Int32} {z2 : List (Nat × Nat)} (hq2 : (LM ++ X)[q2]? = some (2, n2, z2)) {σ : Sta} {o : Int64 × Sta} (h : f_X10_expected a1 q2 n2 a3 σ = some o) : ML l yX10_expected (Cond.code yX10_expected cX10_expected 7 (some .long) :: gW) rm_X10_expected (LM ++ X) Y D E [.ref (E 0), .int a1, .ref (E q2), .int a3] σ o := by
  intro sz
  refine Met_of (Qc := fun sz => QL (LM ++ X) Y D E sz o) (by decide) (Nat.le_of_ble_eq_true rfl) (fun p e s m args below meth c hF hP ls hl => ?_) sz
  have hS : va_S (AF E (LM ++ X).length s.heap.size) s.heap s.heap [] := va_S.rf
  have hl : lv_has ls 7 [(0, .ref (E 0)), (1, .int a1), (2, .ref (E q2)), (3, .int a3)] := hl
  show WL p l e rm_X10_expected s m args below meth c (LM ++ X) Y D E o s.heap [] (F0 m 0 ls [])
  unfold f_X10_expected at h
  obtain ⟨hC, hb, hml, hr, hlk, hD, hSW⟩ := id hF
  have hx := hC.1
  refine lv_lconst (v := 0) hx hb dX10_expected_0 (by decide) ?_
  refine lv_lstore (lv' := [(4, .long 0), (0, .ref (E 0)), (1, .int a1), (2, .ref (E q2)), (3, .int a3)]) hx hb dX10_expected_1 hl (by decide) rfl (fun ls hl => ?_)
  refine lv_iconst (v := 0) hx hb dX10_expected_3 (by decide) ?_
  refine lv_istore (lv' := [(6, .int 0), (4, .long 0), (0, .ref (E 0)), (1, .int a1), (2, .ref (E q2)), (3, .int a3)]) hx hb dX10_expected_4 hl (by decide) rfl (fun ls hl => ?_)
  exact t_X10_expected_6 hX  hq2 hF FU a1 a3 0 0 σ _ _ _ h hP hS (lv_sub hl [2, 3, 4, 5, 1, 0] rfl)

abbrev rm_X10_follow : Room := { frames := 2, cells := 0, slots := 0, locals := 48 }
def f_X10_follow_36 (k2 : Int32 → Int32 → Int32 → Sta → Option (Int64 × Sta)) (v1 : Int32) (v2 : Int32) (v3 : Int32) (s0 : Int64) (s1 : Int32) (σ : Sta) : Option (Int64 × Sta) :=
  if s1 < 0 ∨ 100 ≤ (s1.toNatClampNeg) then none else (
  lt (sJ σ 36 (vp_updL (gJ σ 36) (s1.toNatClampNeg) s0)) (fun σ2 =>
  lt (v3 + 1) (fun x3 =>
  k2 v1 v2 x3 σ2)))
set_option maxHeartbeats 4000000 in
set_option maxRecDepth 100000 in
theorem t_X10_follow_36 {l : Launch} {D : va_G} {Y : CYs} {E : Nat → Nat} {X : List Dsc} (hX : Lok (LM ++ X)) {p : Program} {e : Env} {s : State} {m : MethodId} {args : Array Value} {below : List Frame} {meth : Method} {c : Code} (hF : Fr p s m args meth c RX10 cX10_follow 7 (some .long) D Y E (LM ++ X)) {o : Int64 × Sta} (k2 : Int32 → Int32 → Int32 → Sta → Option (Int64 × Sta)) (hk2 : ∀ (v1 : Int32) (v2 : Int32) (v3 : Int32) (σ : Sta) (H : Heap) (locs : List Loc) (ls : Array Slot), k2 v1 v2 v3 σ = some o → va_P D vwCl (wd Y E σ 0 (LM ++ X)) H → va_S (AF E (LM ++ X).length s.heap.size) s.heap H locs → lv_has ls 7 [(0, .ref (E 0)), (1, .int v1), (2, .int v2), (3, .int v3)] → WL p l e rm_X10_follow s m args below meth c (LM ++ X) Y D E o H locs (F0 m 2 ls [])) : ∀ (v1 : Int32) (v2 : Int32) (v3 : Int32) (s0 : Int64) (s1 : Int32) (σ : Sta) (H : Heap) (locs : List Loc) (ls : Array Slot), f_X10_follow_36 k2 v1 v2 v3 s0 s1 σ = some o → va_P D vwCl (wd Y E σ 0 (LM ++ X)) H → va_S (AF E (LM ++ X).length s.heap.size) s.heap H locs → lv_has ls 7 [(0, .ref (E 0)), (1, .int v1), (2, .int v2), (3, .int v3)] → WL p l e rm_X10_follow s m args below meth c (LM ++ X) Y D E o H locs (F0 m 36 ls [.long s0, .int s1, .ref (E 36)]) := by
  intro v1 v2 v3 s0 s1 σ H locs ls h hP hS hl
  unfold f_X10_follow_36 at h
  obtain ⟨hC, hb, hml, hr, hlk, hD, hSW⟩ := id hF
  have hx := hC.1
  obtain ⟨g1, h⟩ := of_gd h
  refine x_last hX hC hb hP hD hS (lm_36 X) g1 dX10_follow_36 (fun H locs σ2 eσ2 hP hS => ?_)
  have h := of_lt h eσ2
  obtain ⟨x3, ex3⟩ : ∃ y : Int32, y = v3 + 1 := ⟨_, rfl⟩
  have h := of_lt h ex3
  refine lv_iinc (v := x3) (lv' := [(3, .int x3), (0, .ref (E 0)), (1, .int v1), (2, .int v2)]) hx hb dX10_follow_37 hl (k := 3) rfl (by rw [ex3]; rfl) (by decide) rfl (fun ls hl => ?_)
  refine lv_goto (tgt := 2) hx hb dX10_follow_40 (by decide) ?_
  exact hk2 v1 v2 x3 σ2 _ _ _ h hP hS (lv_sub hl [1, 2, 3, 0] rfl)

def f_X10_follow_35 (k2 : Int32 → Int32 → Int32 → Sta → Option (Int64 × Sta)) (v1 : Int32) (v2 : Int32) (v3 : Int32) (s0 : Int32) (σ : Sta) : Option (Int64 × Sta) :=
  f_X10_follow_36 k2 v1 v2 v3 0 s0 σ
set_option maxHeartbeats 4000000 in
set_option maxRecDepth 100000 in
theorem t_X10_follow_35 {l : Launch} {D : va_G} {Y : CYs} {E : Nat → Nat} {X : List Dsc} (hX : Lok (LM ++ X)) {p : Program} {e : Env} {s : State} {m : MethodId} {args : Array Value} {below : List Frame} {meth : Method} {c : Code} (hF : Fr p s m args meth c RX10 cX10_follow 7 (some .long) D Y E (LM ++ X)) {o : Int64 × Sta} (k2 : Int32 → Int32 → Int32 → Sta → Option (Int64 × Sta)) (hk2 : ∀ (v1 : Int32) (v2 : Int32) (v3 : Int32) (σ : Sta) (H : Heap) (locs : List Loc) (ls : Array Slot), k2 v1 v2 v3 σ = some o → va_P D vwCl (wd Y E σ 0 (LM ++ X)) H → va_S (AF E (LM ++ X).length s.heap.size) s.heap H locs → lv_has ls 7 [(0, .ref (E 0)), (1, .int v1), (2, .int v2), (3, .int v3)] → WL p l e rm_X10_follow s m args below meth c (LM ++ X) Y D E o H locs (F0 m 2 ls [])) : ∀ (v1 : Int32) (v2 : Int32) (v3 : Int32) (s0 : Int32) (σ : Sta) (H : Heap) (locs : List Loc) (ls : Array Slot), f_X10_follow_35 k2 v1 v2 v3 s0 σ = some o → va_P D vwCl (wd Y E σ 0 (LM ++ X)) H → va_S (AF E (LM ++ X).length s.heap.size) s.heap H locs → lv_has ls 7 [(0, .ref (E 0)), (1, .int v1), (2, .int v2), (3, .int v3)] → WL p l e rm_X10_follow s m args below meth c (LM ++ X) Y D E o H locs (F0 m 35 ls [.int s0, .ref (E 36)]) := by
  intro v1 v2 v3 s0 σ H locs ls h hP hS hl
  unfold f_X10_follow_35 at h
  obtain ⟨hC, hb, hml, hr, hlk, hD, hSW⟩ := id hF
  have hx := hC.1
  refine lv_lconst (v := 0) hx hb dX10_follow_35 (by decide) ?_
  exact t_X10_follow_36 hX  hF k2 hk2 v1 v2 v3 0 s0 σ _ _ _ h hP hS (lv_sub hl [0, 1, 2, 3] rfl)

def f_X10_follow_178 (k45 : Int32 → Int32 → Int32 → Sta → Option (Int64 × Sta)) (k58 : Int32 → Int32 → Int32 → Int32 → Sta → Option (Int64 × Sta)) (v1 : Int32) (v2 : Int32) (v3 : Int32) (v4 : Int32) (σ : Sta) : Option (Int64 × Sta) :=
  lt (v4 + 1) (fun x1 =>
  k58 v1 v2 v3 x1 σ)
set_option maxHeartbeats 4000000 in
set_option maxRecDepth 100000 in
theorem t_X10_follow_178 {l : Launch} {D : va_G} {Y : CYs} {E : Nat → Nat} {X : List Dsc} (hX : Lok (LM ++ X)) {p : Program} {e : Env} {s : State} {m : MethodId} {args : Array Value} {below : List Frame} {meth : Method} {c : Code} (hF : Fr p s m args meth c RX10 cX10_follow 7 (some .long) D Y E (LM ++ X)) {o : Int64 × Sta} (k45 : Int32 → Int32 → Int32 → Sta → Option (Int64 × Sta)) (k58 : Int32 → Int32 → Int32 → Int32 → Sta → Option (Int64 × Sta)) (hk45 : ∀ (v1 : Int32) (v2 : Int32) (v3 : Int32) (σ : Sta) (H : Heap) (locs : List Loc) (ls : Array Slot), k45 v1 v2 v3 σ = some o → va_P D vwCl (wd Y E σ 0 (LM ++ X)) H → va_S (AF E (LM ++ X).length s.heap.size) s.heap H locs → lv_has ls 7 [(0, .ref (E 0)), (1, .int v1), (2, .int v2), (3, .int v3)] → WL p l e rm_X10_follow s m args below meth c (LM ++ X) Y D E o H locs (F0 m 45 ls [])) (hk58 : ∀ (v1 : Int32) (v2 : Int32) (v3 : Int32) (v4 : Int32) (σ : Sta) (H : Heap) (locs : List Loc) (ls : Array Slot), k58 v1 v2 v3 v4 σ = some o → va_P D vwCl (wd Y E σ 0 (LM ++ X)) H → va_S (AF E (LM ++ X).length s.heap.size) s.heap H locs → lv_has ls 7 [(0, .ref (E 0)), (1, .int v1), (2, .int v2), (3, .int v3), (4, .int v4)] → WL p l e rm_X10_follow s m args below meth c (LM ++ X) Y D E o H locs (F0 m 58 ls [])) : ∀ (v1 : Int32) (v2 : Int32) (v3 : Int32) (v4 : Int32) (σ : Sta) (H : Heap) (locs : List Loc) (ls : Array Slot), f_X10_follow_178 k45 k58 v1 v2 v3 v4 σ = some o → va_P D vwCl (wd Y E σ 0 (LM ++ X)) H → va_S (AF E (LM ++ X).length s.heap.size) s.heap H locs → lv_has ls 7 [(0, .ref (E 0)), (1, .int v1), (2, .int v2), (3, .int v3), (4, .int v4)] → WL p l e rm_X10_follow s m args below meth c (LM ++ X) Y D E o H locs (F0 m 178 ls []) := by
  intro v1 v2 v3 v4 σ H locs ls h hP hS hl
  unfold f_X10_follow_178 at h
  obtain ⟨hC, hb, hml, hr, hlk, hD, hSW⟩ := id hF
  have hx := hC.1
  obtain ⟨x1, ex1⟩ : ∃ y : Int32, y = v4 + 1 := ⟨_, rfl⟩
  have h := of_lt h ex1
  refine lv_iinc (v := x1) (lv' := [(4, .int x1), (0, .ref (E 0)), (1, .int v1), (2, .int v2), (3, .int v3)]) hx hb dX10_follow_178 hl (k := 4) rfl (by rw [ex1]; rfl) (by decide) rfl (fun ls hl => ?_)
  refine lv_goto (tgt := 58) hx hb dX10_follow_181 (by decide) ?_
  exact hk58 v1 v2 v3 x1 σ _ _ _ h hP hS (lv_sub hl [1, 2, 3, 4, 0] rfl)

def f_X10_follow_165 (k45 : Int32 → Int32 → Int32 → Sta → Option (Int64 × Sta)) (k58 : Int32 → Int32 → Int32 → Int32 → Sta → Option (Int64 × Sta)) (v1 : Int32) (v2 : Int32) (v3 : Int32) (v4 : Int32) (v6 : Int32) (s0 : Int64) (s1 : Int32) (σ : Sta) : Option (Int64 × Sta) :=
  bnd (f_X10_expected v6 36 100 0 σ) (fun r1 σ2 =>
  if s1 < 0 ∨ 100 ≤ (s1.toNatClampNeg) then none else (
  lt (sJ σ2 35 (vp_updL (gJ σ2 35) (s1.toNatClampNeg) (s0 + r1))) (fun σ5 =>
  f_X10_follow_178 k45 k58 v1 v2 v3 v4 σ5)))
set_option maxHeartbeats 4000000 in
set_option maxRecDepth 100000 in
theorem t_X10_follow_165 {l : Launch} {D : va_G} {Y : CYs} {E : Nat → Nat} {X : List Dsc} (hX : Lok (LM ++ X)) {p : Program} {e : Env} {s : State} {m : MethodId} {args : Array Value} {below : List Frame} {meth : Method} {c : Code} (hF : Fr p s m args meth c RX10 cX10_follow 7 (some .long) D Y E (LM ++ X)) {o : Int64 × Sta} (k45 : Int32 → Int32 → Int32 → Sta → Option (Int64 × Sta)) (k58 : Int32 → Int32 → Int32 → Int32 → Sta → Option (Int64 × Sta)) (hk45 : ∀ (v1 : Int32) (v2 : Int32) (v3 : Int32) (σ : Sta) (H : Heap) (locs : List Loc) (ls : Array Slot), k45 v1 v2 v3 σ = some o → va_P D vwCl (wd Y E σ 0 (LM ++ X)) H → va_S (AF E (LM ++ X).length s.heap.size) s.heap H locs → lv_has ls 7 [(0, .ref (E 0)), (1, .int v1), (2, .int v2), (3, .int v3)] → WL p l e rm_X10_follow s m args below meth c (LM ++ X) Y D E o H locs (F0 m 45 ls [])) (hk58 : ∀ (v1 : Int32) (v2 : Int32) (v3 : Int32) (v4 : Int32) (σ : Sta) (H : Heap) (locs : List Loc) (ls : Array Slot), k58 v1 v2 v3 v4 σ = some o → va_P D vwCl (wd Y E σ 0 (LM ++ X)) H → va_S (AF E (LM ++ X).length s.heap.size) s.heap H locs → lv_has ls 7 [(0, .ref (E 0)), (1, .int v1), (2, .int v2), (3, .int v3), (4, .int v4)] → WL p l e rm_X10_follow s m args below meth c (LM ++ X) Y D E o H locs (F0 m 58 ls [])) : ∀ (v1 : Int32) (v2 : Int32) (v3 : Int32) (v4 : Int32) (v6 : Int32) (s0 : Int64) (s1 : Int32) (σ : Sta) (H : Heap) (locs : List Loc) (ls : Array Slot), f_X10_follow_165 k45 k58 v1 v2 v3 v4 v6 s0 s1 σ = some o → va_P D vwCl (wd Y E σ 0 (LM ++ X)) H → va_S (AF E (LM ++ X).length s.heap.size) s.heap H locs → lv_has ls 7 [(0, .ref (E 0)), (1, .int v1), (2, .int v2), (3, .int v3), (4, .int v4), (6, .int v6)] → WL p l e rm_X10_follow s m args below meth c (LM ++ X) Y D E o H locs (F0 m 165 ls [.long s0, .int s1, .ref (E 35)]) := by
  intro v1 v2 v3 v4 v6 s0 s1 σ H locs ls h hP hS hl
  unfold f_X10_follow_165 at h
  obtain ⟨hC, hb, hml, hr, hlk, hD, hSW⟩ := id hF
  have hx := hC.1
  refine lv_aload_n hx hb dX10_follow_165 rfl (lv_at hl 0 rfl) ?_
  refine lv_iload hx hb dX10_follow_166 (lv_at hl 5 rfl) ?_
  refine lv_aload_n hx hb dX10_follow_168 rfl (lv_at hl 0 rfl) ?_
  refine gf_X10_122 hC hb hP dX10_follow_169 ?_
  refine lv_iconst (v := 0) hx hb dX10_follow_172 (by decide) ?_
  obtain ⟨r1, σ2, g3, h⟩ := of_bnd h
  refine x_VL (As := [.int v6, .ref (E 36), .int 0]) (rest := [.long s0, .int s1, .ref (E 35)]) hF hl hP hS (c_X10_expected hX (lm_36 X) g3) (cw_X10_410 hC rfl rfl ⟨Nat.le_of_ble_eq_true rfl, Nat.le_of_ble_eq_true rfl⟩) (lm_0 X) rfl rfl rfl (Nat.le_of_ble_eq_true rfl) dX10_follow_173 ⟨Nat.zero_le _, Nat.zero_le _⟩ (fun H locs hP hS => ?_)
  refine lv_ladd hx hb dX10_follow_176 ?_
  obtain ⟨g4, h⟩ := of_gd h
  refine x_last hX hC hb hP hD hS (lm_35 X) g4 dX10_follow_177 (fun H locs σ5 eσ5 hP hS => ?_)
  have h := of_lt h eσ5
  exact t_X10_follow_178 hX  hF k45 k58 hk45 hk58 v1 v2 v3 v4 σ5 _ _ _ h hP hS (lv_sub hl [0, 1, 2, 3, 4] rfl)

def f_X10_follow_115 (k45 : Int32 → Int32 → Int32 → Sta → Option (Int64 × Sta)) (k58 : Int32 → Int32 → Int32 → Int32 → Sta → Option (Int64 × Sta)) (v1 : Int32) (v2 : Int32) (v3 : Int32) (v4 : Int32) (v5 : Int32) (s0 : Int64) (s1 : Int32) (σ : Sta) : Option (Int64 × Sta) :=
  if s1 < 0 ∨ 100 ≤ (s1.toNatClampNeg) then none else (
  lt (sJ σ 35 (vp_updL (gJ σ 35) (s1.toNatClampNeg) s0)) (fun σ2 =>
  if v5 = -1 then
    f_X10_follow_178 k45 k58 v1 v2 v3 v4 σ2
  else
    lt ((16 * v4) + v5) (fun x4 =>
    if v2 = -1 then
      f_X10_follow_165 k45 k58 v1 v2 v3 v4 x4 0 v4 σ2
    else
      if (3 * x4) + v2 < 0 ∨ 4800 ≤ (((3 * x4) + v2).toNatClampNeg) then none else (
      f_X10_follow_165 k45 k58 v1 v2 v3 v4 x4 (10000 * (gJ σ2 25 (((3 * x4) + v2).toNatClampNeg))) v4 σ2))))
set_option maxHeartbeats 4000000 in
set_option maxRecDepth 100000 in
theorem t_X10_follow_115 {l : Launch} {D : va_G} {Y : CYs} {E : Nat → Nat} {X : List Dsc} (hX : Lok (LM ++ X)) {p : Program} {e : Env} {s : State} {m : MethodId} {args : Array Value} {below : List Frame} {meth : Method} {c : Code} (hF : Fr p s m args meth c RX10 cX10_follow 7 (some .long) D Y E (LM ++ X)) {o : Int64 × Sta} (k45 : Int32 → Int32 → Int32 → Sta → Option (Int64 × Sta)) (k58 : Int32 → Int32 → Int32 → Int32 → Sta → Option (Int64 × Sta)) (hk45 : ∀ (v1 : Int32) (v2 : Int32) (v3 : Int32) (σ : Sta) (H : Heap) (locs : List Loc) (ls : Array Slot), k45 v1 v2 v3 σ = some o → va_P D vwCl (wd Y E σ 0 (LM ++ X)) H → va_S (AF E (LM ++ X).length s.heap.size) s.heap H locs → lv_has ls 7 [(0, .ref (E 0)), (1, .int v1), (2, .int v2), (3, .int v3)] → WL p l e rm_X10_follow s m args below meth c (LM ++ X) Y D E o H locs (F0 m 45 ls [])) (hk58 : ∀ (v1 : Int32) (v2 : Int32) (v3 : Int32) (v4 : Int32) (σ : Sta) (H : Heap) (locs : List Loc) (ls : Array Slot), k58 v1 v2 v3 v4 σ = some o → va_P D vwCl (wd Y E σ 0 (LM ++ X)) H → va_S (AF E (LM ++ X).length s.heap.size) s.heap H locs → lv_has ls 7 [(0, .ref (E 0)), (1, .int v1), (2, .int v2), (3, .int v3), (4, .int v4)] → WL p l e rm_X10_follow s m args below meth c (LM ++ X) Y D E o H locs (F0 m 58 ls [])) : ∀ (v1 : Int32) (v2 : Int32) (v3 : Int32) (v4 : Int32) (v5 : Int32) (s0 : Int64) (s1 : Int32) (σ : Sta) (H : Heap) (locs : List Loc) (ls : Array Slot), f_X10_follow_115 k45 k58 v1 v2 v3 v4 v5 s0 s1 σ = some o → va_P D vwCl (wd Y E σ 0 (LM ++ X)) H → va_S (AF E (LM ++ X).length s.heap.size) s.heap H locs → lv_has ls 7 [(0, .ref (E 0)), (1, .int v1), (2, .int v2), (3, .int v3), (4, .int v4), (5, .int v5)] → WL p l e rm_X10_follow s m args below meth c (LM ++ X) Y D E o H locs (F0 m 115 ls [.long s0, .int s1, .ref (E 35)]) := by
  intro v1 v2 v3 v4 v5 s0 s1 σ H locs ls h hP hS hl
  unfold f_X10_follow_115 at h
  obtain ⟨hC, hb, hml, hr, hlk, hD, hSW⟩ := id hF
  have hx := hC.1
  obtain ⟨g1, h⟩ := of_gd h
  refine x_last hX hC hb hP hD hS (lm_35 X) g1 dX10_follow_115 (fun H locs σ2 eσ2 hP hS => ?_)
  have h := of_lt h eσ2
  refine lv_iload hx hb dX10_follow_116 (lv_at hl 5 rfl) ?_
  refine lv_iconst (v := -1) hx hb dX10_follow_118 (by decide) ?_
  refine lv_icmp_ne (tgt := 125) hx hb dX10_follow_119 (by decide) (fun c3 => ?_) (fun c3 => ?_)
  · have h := of_f h c3
    refine lv_bipush (v := 16) hx hb dX10_follow_125 (by decide) ?_
    refine lv_iload hx hb dX10_follow_127 (lv_at hl 4 rfl) ?_
    refine lv_imul hx hb dX10_follow_129 ?_
    refine lv_iload hx hb dX10_follow_130 (lv_at hl 5 rfl) ?_
    refine lv_iadd hx hb dX10_follow_132 ?_
    refine lv_topi (fun x4 ex4 => ?_)
    have h := of_lt h ex4
    refine lv_istore (lv' := [(6, .int x4), (0, .ref (E 0)), (1, .int v1), (2, .int v2), (3, .int v3), (4, .int v4), (5, .int v5)]) hx hb dX10_follow_133 hl (by decide) rfl (fun ls hl => ?_)
    refine lv_aload_n hx hb dX10_follow_135 rfl (lv_at hl 1 rfl) ?_
    refine gf_X10_119 hC hb hP dX10_follow_136 ?_
    refine lv_iload hx hb dX10_follow_139 (lv_at hl 5 rfl) ?_
    refine lv_iload_n hx hb dX10_follow_141 rfl (lv_at hl 3 rfl) ?_
    refine lv_iconst (v := -1) hx hb dX10_follow_142 (by decide) ?_
    refine lv_icmp_ne (tgt := 150) hx hb dX10_follow_143 (by decide) (fun c5 => ?_) (fun c5 => ?_)
    · have h := of_f h c5
      refine lv_ldc2 (v := 10000) hx hb hC.2.2.1 (hC.2.1 (Cond.constantLong RX10 408 10000) (gw_t (tb8 (List.mem_of_getElem? (i := 44) rfl)) rfl)) dX10_follow_150 ?_
      refine lv_aload_n hx hb dX10_follow_153 rfl (lv_at hl 1 rfl) ?_
      refine gf_X10_88 hC hb hP dX10_follow_154 ?_
      refine lv_iconst (v := 3) hx hb dX10_follow_157 (by decide) ?_
      refine lv_iload hx hb dX10_follow_158 (lv_at hl 0 rfl) ?_
      refine lv_imul hx hb dX10_follow_160 ?_
      refine lv_iload_n hx hb dX10_follow_161 rfl (lv_at hl 3 rfl) ?_
      refine lv_iadd hx hb dX10_follow_162 ?_
      obtain ⟨g6, h⟩ := of_gd h
      refine x_lald hC hb hP (lm_25 X) g6 dX10_follow_163 ?_
      refine lv_lmul hx hb dX10_follow_164 ?_
      exact t_X10_follow_165 hX  hF k45 k58 hk45 hk58 v1 v2 v3 v4 x4 (10000 * (gJ σ2 25 (((3 * x4) + v2).toNatClampNeg))) v4 σ2 _ _ _ h hP hS (lv_sub hl [1, 2, 3, 4, 5, 0] rfl)
    · have h := of_t h c5
      refine lv_lconst (v := 0) hx hb dX10_follow_146 (by decide) ?_
      refine lv_goto (tgt := 165) hx hb dX10_follow_147 (by decide) ?_
      exact t_X10_follow_165 hX  hF k45 k58 hk45 hk58 v1 v2 v3 v4 x4 0 v4 σ2 _ _ _ h hP hS (lv_sub hl [1, 2, 3, 4, 5, 0] rfl)
  · have h := of_t h c3
    refine lv_goto (tgt := 178) hx hb dX10_follow_122 (by decide) ?_
    exact t_X10_follow_178 hX  hF k45 k58 hk45 hk58 v1 v2 v3 v4 σ2 _ _ _ h hP hS (lv_sub hl [0, 1, 2, 3, 4] rfl)

def f_X10_follow_114 (k45 : Int32 → Int32 → Int32 → Sta → Option (Int64 × Sta)) (k58 : Int32 → Int32 → Int32 → Int32 → Sta → Option (Int64 × Sta)) (v1 : Int32) (v2 : Int32) (v3 : Int32) (v4 : Int32) (v5 : Int32) (s0 : Int32) (σ : Sta) : Option (Int64 × Sta) :=
  f_X10_follow_115 k45 k58 v1 v2 v3 v4 v5 0 s0 σ
set_option maxHeartbeats 4000000 in
set_option maxRecDepth 100000 in
theorem t_X10_follow_114 {l : Launch} {D : va_G} {Y : CYs} {E : Nat → Nat} {X : List Dsc} (hX : Lok (LM ++ X)) {p : Program} {e : Env} {s : State} {m : MethodId} {args : Array Value} {below : List Frame} {meth : Method} {c : Code} (hF : Fr p s m args meth c RX10 cX10_follow 7 (some .long) D Y E (LM ++ X)) {o : Int64 × Sta} (k45 : Int32 → Int32 → Int32 → Sta → Option (Int64 × Sta)) (k58 : Int32 → Int32 → Int32 → Int32 → Sta → Option (Int64 × Sta)) (hk45 : ∀ (v1 : Int32) (v2 : Int32) (v3 : Int32) (σ : Sta) (H : Heap) (locs : List Loc) (ls : Array Slot), k45 v1 v2 v3 σ = some o → va_P D vwCl (wd Y E σ 0 (LM ++ X)) H → va_S (AF E (LM ++ X).length s.heap.size) s.heap H locs → lv_has ls 7 [(0, .ref (E 0)), (1, .int v1), (2, .int v2), (3, .int v3)] → WL p l e rm_X10_follow s m args below meth c (LM ++ X) Y D E o H locs (F0 m 45 ls [])) (hk58 : ∀ (v1 : Int32) (v2 : Int32) (v3 : Int32) (v4 : Int32) (σ : Sta) (H : Heap) (locs : List Loc) (ls : Array Slot), k58 v1 v2 v3 v4 σ = some o → va_P D vwCl (wd Y E σ 0 (LM ++ X)) H → va_S (AF E (LM ++ X).length s.heap.size) s.heap H locs → lv_has ls 7 [(0, .ref (E 0)), (1, .int v1), (2, .int v2), (3, .int v3), (4, .int v4)] → WL p l e rm_X10_follow s m args below meth c (LM ++ X) Y D E o H locs (F0 m 58 ls [])) : ∀ (v1 : Int32) (v2 : Int32) (v3 : Int32) (v4 : Int32) (v5 : Int32) (s0 : Int32) (σ : Sta) (H : Heap) (locs : List Loc) (ls : Array Slot), f_X10_follow_114 k45 k58 v1 v2 v3 v4 v5 s0 σ = some o → va_P D vwCl (wd Y E σ 0 (LM ++ X)) H → va_S (AF E (LM ++ X).length s.heap.size) s.heap H locs → lv_has ls 7 [(0, .ref (E 0)), (1, .int v1), (2, .int v2), (3, .int v3), (4, .int v4), (5, .int v5)] → WL p l e rm_X10_follow s m args below meth c (LM ++ X) Y D E o H locs (F0 m 114 ls [.int s0, .ref (E 35)]) := by
  intro v1 v2 v3 v4 v5 s0 σ H locs ls h hP hS hl
  unfold f_X10_follow_114 at h
  obtain ⟨hC, hb, hml, hr, hlk, hD, hSW⟩ := id hF
  have hx := hC.1
  refine lv_lconst (v := 0) hx hb dX10_follow_114 (by decide) ?_
  exact t_X10_follow_115 hX  hF k45 k58 hk45 hk58 v1 v2 v3 v4 v5 0 s0 σ _ _ _ h hP hS (lv_sub hl [0, 1, 2, 3, 4, 5] rfl)

def f_X10_follow_58 (k45 : Int32 → Int32 → Int32 → Sta → Option (Int64 × Sta)) : Nat → Int32 → Int32 → Int32 → Int32 → Sta → Option (Int64 × Sta)
  | 0, _, _, _, _, _ => none
  | n + 1, v1, v2, v3, v4, σ => if gI σ 37 ≤ v4 then
      if (0 : Int32) < 0 ∨ (0 : Int32) < 0 ∨ gI σ 37 < 0 ∨ 100 < ((0 : Int32).toNatClampNeg) + ((gI σ 37).toNatClampNeg) ∨ 100 < ((0 : Int32).toNatClampNeg) + ((gI σ 37).toNatClampNeg) then none else (
      lt (sJ σ 36 (va_cpy (gJ σ 35) (gJ σ 36) ((0 : Int32).toNatClampNeg) ((0 : Int32).toNatClampNeg) ((gI σ 37).toNatClampNeg))) (fun σ3 =>
      lt (v3 + 1) (fun x4 =>
      k45 v1 v2 x4 σ3)))
    else
      if ((3100 * v1) + (100 * v3)) + v4 < 0 ∨ 68200 ≤ ((((3100 * v1) + (100 * v3)) + v4).toNatClampNeg) then none else (
      lt (gA σ 31 ((((3100 * v1) + (100 * v3)) + v4).toNatClampNeg)) (fun x6 =>
      if v2 = -1 then
        if v4 < 0 ∨ 100 ≤ (v4.toNatClampNeg) then none else (
        if gA σ 22 (v4.toNatClampNeg) = 0 then
          f_X10_follow_114 k45 (f_X10_follow_58 k45 n) v1 v2 v3 v4 x6 v4 σ
        else
          f_X10_follow_115 k45 (f_X10_follow_58 k45 n) v1 v2 v3 v4 x6 1000000 v4 σ)
      else
        f_X10_follow_114 k45 (f_X10_follow_58 k45 n) v1 v2 v3 v4 x6 v4 σ))
set_option maxHeartbeats 4000000 in
set_option maxRecDepth 100000 in
theorem t_X10_follow_58 {l : Launch} {D : va_G} {Y : CYs} {E : Nat → Nat} {X : List Dsc} (hX : Lok (LM ++ X)) {p : Program} {e : Env} {s : State} {m : MethodId} {args : Array Value} {below : List Frame} {meth : Method} {c : Code} (hF : Fr p s m args meth c RX10 cX10_follow 7 (some .long) D Y E (LM ++ X)) {o : Int64 × Sta} (k45 : Int32 → Int32 → Int32 → Sta → Option (Int64 × Sta)) (hk45 : ∀ (v1 : Int32) (v2 : Int32) (v3 : Int32) (σ : Sta) (H : Heap) (locs : List Loc) (ls : Array Slot), k45 v1 v2 v3 σ = some o → va_P D vwCl (wd Y E σ 0 (LM ++ X)) H → va_S (AF E (LM ++ X).length s.heap.size) s.heap H locs → lv_has ls 7 [(0, .ref (E 0)), (1, .int v1), (2, .int v2), (3, .int v3)] → WL p l e rm_X10_follow s m args below meth c (LM ++ X) Y D E o H locs (F0 m 45 ls [])) : ∀ (n : Nat) (v1 : Int32) (v2 : Int32) (v3 : Int32) (v4 : Int32) (σ : Sta) (H : Heap) (locs : List Loc) (ls : Array Slot), f_X10_follow_58 k45 n v1 v2 v3 v4 σ = some o → va_P D vwCl (wd Y E σ 0 (LM ++ X)) H → va_S (AF E (LM ++ X).length s.heap.size) s.heap H locs → lv_has ls 7 [(0, .ref (E 0)), (1, .int v1), (2, .int v2), (3, .int v3), (4, .int v4)] → WL p l e rm_X10_follow s m args below meth c (LM ++ X) Y D E o H locs (F0 m 58 ls []) := by
  intro n
  induction n with
  | zero =>
    intro v1 v2 v3 v4 σ H locs ls h hP hS hl
    exact nomatch (show (none : Option (Int64 × Sta)) = some o from h)
  | succ n ih =>
    intro v1 v2 v3 v4 σ H locs ls h hP hS hl
    rw [f_X10_follow_58] at h
    obtain ⟨hC, hb, hml, hr, hlk, hD, hSW⟩ := id hF
    have hx := hC.1
    refine lv_iload hx hb dX10_follow_58 (lv_at hl 4 rfl) ?_
    refine lv_aload_n hx hb dX10_follow_60 rfl (lv_at hl 0 rfl) ?_
    refine gf_X10_213 hC hb hP dX10_follow_61 ?_
    refine lv_icmp_ge (tgt := 184) hx hb dX10_follow_64 (by decide) (fun c1 => ?_) (fun c1 => ?_)
    · have h := of_t h c1
      refine lv_aload_n hx hb dX10_follow_184 rfl (lv_at hl 0 rfl) ?_
      refine gf_X10_119 hC hb hP dX10_follow_185 ?_
      refine lv_iconst (v := 0) hx hb dX10_follow_188 (by decide) ?_
      refine lv_aload_n hx hb dX10_follow_189 rfl (lv_at hl 0 rfl) ?_
      refine gf_X10_122 hC hb hP dX10_follow_190 ?_
      refine lv_iconst (v := 0) hx hb dX10_follow_193 (by decide) ?_
      refine lv_aload_n hx hb dX10_follow_194 rfl (lv_at hl 0 rfl) ?_
      refine gf_X10_213 hC hb hP dX10_follow_195 ?_
      obtain ⟨g2, h⟩ := of_gd h
      refine x_copyJ hX hF hl hP hS (gw_t (tb7 (List.mem_of_getElem? (i := 186) rfl)) rfl) (gw_t (tb3 (List.mem_of_getElem? (i := 229) rfl)) rfl) (gw_t (tb3 (List.mem_of_getElem? (i := 228) rfl)) rfl) (gw_t (tb1 (List.mem_of_getElem? (i := 23) rfl)) rfl) (lm_35 X) (lm_36 X) g2 (Nat.le_of_ble_eq_true rfl) (Nat.le_of_ble_eq_true rfl) dX10_follow_198 (fun H locs σ3 eσ3 hP hS => ?_)
      have h := of_lt h eσ3
      obtain ⟨x4, ex4⟩ : ∃ y : Int32, y = v3 + 1 := ⟨_, rfl⟩
      have h := of_lt h ex4
      refine lv_iinc (v := x4) (lv' := [(3, .int x4), (0, .ref (E 0)), (1, .int v1), (2, .int v2), (4, .int v4)]) hx hb dX10_follow_201 hl (k := 3) rfl (by rw [ex4]; rfl) (by decide) rfl (fun ls hl => ?_)
      refine lv_goto (tgt := 45) hx hb dX10_follow_204 (by decide) ?_
      exact hk45 v1 v2 x4 σ3 _ _ _ h hP hS (lv_sub hl [1, 2, 3, 0] rfl)
    · have h := of_f h c1
      refine lv_aload_n hx hb dX10_follow_67 rfl (lv_at hl 0 rfl) ?_
      refine gf_X10_107 hC hb hP dX10_follow_68 ?_
      refine lv_sipush (v := 3100) hx hb dX10_follow_71 (by decide) ?_
      refine lv_iload_n hx hb dX10_follow_74 rfl (lv_at hl 1 rfl) ?_
      refine lv_imul hx hb dX10_follow_75 ?_
      refine lv_bipush (v := 100) hx hb dX10_follow_76 (by decide) ?_
      refine lv_iload_n hx hb dX10_follow_78 rfl (lv_at hl 3 rfl) ?_
      refine lv_imul hx hb dX10_follow_79 ?_
      refine lv_iadd hx hb dX10_follow_80 ?_
      refine lv_iload hx hb dX10_follow_81 (lv_at hl 4 rfl) ?_
      refine lv_iadd hx hb dX10_follow_83 ?_
      obtain ⟨g5, h⟩ := of_gd h
      refine x_iald hC hb hP (lm_31 X) g5 dX10_follow_84 ?_
      refine lv_topi (fun x6 ex6 => ?_)
      have h := of_lt h ex6
      refine lv_istore (lv' := [(5, .int x6), (0, .ref (E 0)), (1, .int v1), (2, .int v2), (3, .int v3), (4, .int v4)]) hx hb dX10_follow_85 hl (by decide) rfl (fun ls hl => ?_)
      refine lv_aload_n hx hb dX10_follow_87 rfl (lv_at hl 1 rfl) ?_
      refine gf_X10_119 hC hb hP dX10_follow_88 ?_
      refine lv_iload hx hb dX10_follow_91 (lv_at hl 5 rfl) ?_
      refine lv_iload_n hx hb dX10_follow_93 rfl (lv_at hl 3 rfl) ?_
      refine lv_iconst (v := -1) hx hb dX10_follow_94 (by decide) ?_
      refine lv_icmp_ne (tgt := 114) hx hb dX10_follow_95 (by decide) (fun c7 => ?_) (fun c7 => ?_)
      · have h := of_f h c7
        exact t_X10_follow_114 hX  hF k45 (f_X10_follow_58 k45 n) hk45 ih v1 v2 v3 v4 x6 v4 σ _ _ _ h hP hS (lv_sub hl [1, 2, 3, 4, 5, 0] rfl)
      · have h := of_t h c7
        refine lv_aload_n hx hb dX10_follow_98 rfl (lv_at hl 1 rfl) ?_
        refine gf_X10_78 hC hb hP dX10_follow_99 ?_
        refine lv_iload hx hb dX10_follow_102 (lv_at hl 5 rfl) ?_
        obtain ⟨g8, h⟩ := of_gd h
        refine x_zald hC hb hP (lm_22 X) g8 dX10_follow_104 ?_
        refine lv_if_eq (tgt := 114) hx hb dX10_follow_105 (by decide) (fun c9 => ?_) (fun c9 => ?_)
        · have h := of_t h c9
          exact t_X10_follow_114 hX  hF k45 (f_X10_follow_58 k45 n) hk45 ih v1 v2 v3 v4 x6 v4 σ _ _ _ h hP hS (lv_sub hl [1, 2, 3, 4, 5, 0] rfl)
        · have h := of_f h c9
          refine lv_ldc2 (v := 1000000) hx hb hC.2.2.1 (hC.2.1 (Cond.constantLong RX10 417 1000000) (gw_t (tb8 (List.mem_of_getElem? (i := 53) rfl)) rfl)) dX10_follow_108 ?_
          refine lv_goto (tgt := 115) hx hb dX10_follow_111 (by decide) ?_
          exact t_X10_follow_115 hX  hF k45 (f_X10_follow_58 k45 n) hk45 ih v1 v2 v3 v4 x6 1000000 v4 σ _ _ _ h hP hS (lv_sub hl [1, 2, 3, 4, 5, 0] rfl)

def f_X10_follow_45 : Nat → Int32 → Int32 → Int32 → Sta → Option (Int64 × Sta)
  | 0, _, _, _, _ => none
  | n + 1, v1, v2, v3, σ => if v1 < 0 ∨ 22 ≤ (v1.toNatClampNeg) then none else (
    if gA σ 30 (v1.toNatClampNeg) < v3 then
      if (0 : Int32) < 0 ∨ 100 ≤ ((0 : Int32).toNatClampNeg) then none else (
      some (gJ σ 36 ((0 : Int32).toNatClampNeg), σ))
    else
      f_X10_follow_58 (f_X10_follow_45 n) FU v1 v2 v3 0 σ)
set_option maxHeartbeats 4000000 in
set_option maxRecDepth 100000 in
theorem t_X10_follow_45 {l : Launch} {D : va_G} {Y : CYs} {E : Nat → Nat} {X : List Dsc} (hX : Lok (LM ++ X)) {p : Program} {e : Env} {s : State} {m : MethodId} {args : Array Value} {below : List Frame} {meth : Method} {c : Code} (hF : Fr p s m args meth c RX10 cX10_follow 7 (some .long) D Y E (LM ++ X)) {o : Int64 × Sta} : ∀ (n : Nat) (v1 : Int32) (v2 : Int32) (v3 : Int32) (σ : Sta) (H : Heap) (locs : List Loc) (ls : Array Slot), f_X10_follow_45 n v1 v2 v3 σ = some o → va_P D vwCl (wd Y E σ 0 (LM ++ X)) H → va_S (AF E (LM ++ X).length s.heap.size) s.heap H locs → lv_has ls 7 [(0, .ref (E 0)), (1, .int v1), (2, .int v2), (3, .int v3)] → WL p l e rm_X10_follow s m args below meth c (LM ++ X) Y D E o H locs (F0 m 45 ls []) := by
  intro n
  induction n with
  | zero =>
    intro v1 v2 v3 σ H locs ls h hP hS hl
    exact nomatch (show (none : Option (Int64 × Sta)) = some o from h)
  | succ n ih =>
    intro v1 v2 v3 σ H locs ls h hP hS hl
    rw [f_X10_follow_45] at h
    obtain ⟨hC, hb, hml, hr, hlk, hD, hSW⟩ := id hF
    have hx := hC.1
    refine lv_iload_n hx hb dX10_follow_45 rfl (lv_at hl 3 rfl) ?_
    refine lv_aload_n hx hb dX10_follow_46 rfl (lv_at hl 0 rfl) ?_
    refine gf_X10_103 hC hb hP dX10_follow_47 ?_
    refine lv_iload_n hx hb dX10_follow_50 rfl (lv_at hl 1 rfl) ?_
    obtain ⟨g1, h⟩ := of_gd h
    refine x_iald hC hb hP (lm_30 X) g1 dX10_follow_51 ?_
    refine lv_icmp_gt (tgt := 207) hx hb dX10_follow_52 (by decide) (fun c2 => ?_) (fun c2 => ?_)
    · have h := of_t h c2
      refine lv_aload_n hx hb dX10_follow_207 rfl (lv_at hl 0 rfl) ?_
      refine gf_X10_122 hC hb hP dX10_follow_208 ?_
      refine lv_iconst (v := 0) hx hb dX10_follow_211 (by decide) ?_
      obtain ⟨g3, h⟩ := of_gd h
      refine x_lald hC hb hP (lm_36 X) g3 dX10_follow_212 ?_
      exact x_lret hF hP hS h dX10_follow_213
    · have h := of_f h c2
      refine lv_iconst (v := 0) hx hb dX10_follow_55 (by decide) ?_
      refine lv_istore (lv' := [(4, .int 0), (0, .ref (E 0)), (1, .int v1), (2, .int v2), (3, .int v3)]) hx hb dX10_follow_56 hl (by decide) rfl (fun ls hl => ?_)
      exact t_X10_follow_58 hX  hF (f_X10_follow_45 n) ih FU v1 v2 v3 0 σ _ _ _ h hP hS (lv_sub hl [1, 2, 3, 4, 0] rfl)

def f_X10_follow_2 : Nat → Int32 → Int32 → Int32 → Sta → Option (Int64 × Sta)
  | 0, _, _, _, _ => none
  | n + 1, v1, v2, v3, σ => if gI σ 37 ≤ v3 then
      f_X10_follow_45 FU v1 v2 1 σ
    else
      if v2 = -1 then
        if v3 < 0 ∨ 100 ≤ (v3.toNatClampNeg) then none else (
        if gA σ 22 (v3.toNatClampNeg) = 0 then
          f_X10_follow_35 (f_X10_follow_2 n) v1 v2 v3 v3 σ
        else
          f_X10_follow_36 (f_X10_follow_2 n) v1 v2 v3 1000000 v3 σ)
      else
        f_X10_follow_35 (f_X10_follow_2 n) v1 v2 v3 v3 σ
set_option maxHeartbeats 4000000 in
set_option maxRecDepth 100000 in
theorem t_X10_follow_2 {l : Launch} {D : va_G} {Y : CYs} {E : Nat → Nat} {X : List Dsc} (hX : Lok (LM ++ X)) {p : Program} {e : Env} {s : State} {m : MethodId} {args : Array Value} {below : List Frame} {meth : Method} {c : Code} (hF : Fr p s m args meth c RX10 cX10_follow 7 (some .long) D Y E (LM ++ X)) {o : Int64 × Sta} : ∀ (n : Nat) (v1 : Int32) (v2 : Int32) (v3 : Int32) (σ : Sta) (H : Heap) (locs : List Loc) (ls : Array Slot), f_X10_follow_2 n v1 v2 v3 σ = some o → va_P D vwCl (wd Y E σ 0 (LM ++ X)) H → va_S (AF E (LM ++ X).length s.heap.size) s.heap H locs → lv_has ls 7 [(0, .ref (E 0)), (1, .int v1), (2, .int v2), (3, .int v3)] → WL p l e rm_X10_follow s m args below meth c (LM ++ X) Y D E o H locs (F0 m 2 ls []) := by
  intro n
  induction n with
  | zero =>
    intro v1 v2 v3 σ H locs ls h hP hS hl
    exact nomatch (show (none : Option (Int64 × Sta)) = some o from h)
  | succ n ih =>
    intro v1 v2 v3 σ H locs ls h hP hS hl
    rw [f_X10_follow_2] at h
    obtain ⟨hC, hb, hml, hr, hlk, hD, hSW⟩ := id hF
    have hx := hC.1
    refine lv_iload_n hx hb dX10_follow_2 rfl (lv_at hl 3 rfl) ?_
    refine lv_aload_n hx hb dX10_follow_3 rfl (lv_at hl 0 rfl) ?_
    refine gf_X10_213 hC hb hP dX10_follow_4 ?_
    refine lv_icmp_ge (tgt := 43) hx hb dX10_follow_7 (by decide) (fun c1 => ?_) (fun c1 => ?_)
    · have h := of_t h c1
      refine lv_iconst (v := 1) hx hb dX10_follow_43 (by decide) ?_
      refine lv_istore_n (lv' := [(3, .int 1), (0, .ref (E 0)), (1, .int v1), (2, .int v2)]) hx hb dX10_follow_44 rfl hl (by decide) rfl (fun ls hl => ?_)
      exact t_X10_follow_45 hX  hF FU v1 v2 1 σ _ _ _ h hP hS (lv_sub hl [1, 2, 3, 0] rfl)
    · have h := of_f h c1
      refine lv_aload_n hx hb dX10_follow_10 rfl (lv_at hl 0 rfl) ?_
      refine gf_X10_122 hC hb hP dX10_follow_11 ?_
      refine lv_iload_n hx hb dX10_follow_14 rfl (lv_at hl 3 rfl) ?_
      refine lv_iload_n hx hb dX10_follow_15 rfl (lv_at hl 2 rfl) ?_
      refine lv_iconst (v := -1) hx hb dX10_follow_16 (by decide) ?_
      refine lv_icmp_ne (tgt := 35) hx hb dX10_follow_17 (by decide) (fun c2 => ?_) (fun c2 => ?_)
      · have h := of_f h c2
        exact t_X10_follow_35 hX  hF (f_X10_follow_2 n) ih v1 v2 v3 v3 σ _ _ _ h hP hS (lv_sub hl [0, 1, 2, 3] rfl)
      · have h := of_t h c2
        refine lv_aload_n hx hb dX10_follow_20 rfl (lv_at hl 0 rfl) ?_
        refine gf_X10_78 hC hb hP dX10_follow_21 ?_
        refine lv_iload_n hx hb dX10_follow_24 rfl (lv_at hl 3 rfl) ?_
        obtain ⟨g3, h⟩ := of_gd h
        refine x_zald hC hb hP (lm_22 X) g3 dX10_follow_25 ?_
        refine lv_if_eq (tgt := 35) hx hb dX10_follow_26 (by decide) (fun c4 => ?_) (fun c4 => ?_)
        · have h := of_t h c4
          exact t_X10_follow_35 hX  hF (f_X10_follow_2 n) ih v1 v2 v3 v3 σ _ _ _ h hP hS (lv_sub hl [0, 1, 2, 3] rfl)
        · have h := of_f h c4
          refine lv_ldc2 (v := 1000000) hx hb hC.2.2.1 (hC.2.1 (Cond.constantLong RX10 417 1000000) (gw_t (tb8 (List.mem_of_getElem? (i := 53) rfl)) rfl)) dX10_follow_29 ?_
          refine lv_goto (tgt := 36) hx hb dX10_follow_32 (by decide) ?_
          exact t_X10_follow_36 hX  hF (f_X10_follow_2 n) ih v1 v2 v3 1000000 v3 σ _ _ _ h hP hS (lv_sub hl [0, 1, 2, 3] rfl)

def f_X10_follow (a1 : Int32) (a2 : Int32) (σ : Sta) : Option (Int64 × Sta) :=
  f_X10_follow_2 FU a1 a2 0 σ
set_option maxHeartbeats 4000000 in
set_option maxRecDepth 100000 in
theorem c_X10_follow {l : Launch} {D : va_G} {Y : CYs} {E : Nat → Nat} {X : List Dsc} (hX : Lok (LM ++ X)) {a1 : Int32} {a2 : Int32} {σ : Sta} {o : Int64 × Sta} (h : f_X10_follow a1 a2 σ = some o) : ML l yX10_follow (Cond.code yX10_follow cX10_follow 7 (some .long) :: gW) rm_X10_follow (LM ++ X) Y D E [.ref (E 0), .int a1, .int a2] σ o := by
  intro sz
  refine Met_of (Qc := fun sz => QL (LM ++ X) Y D E sz o) (by decide) (Nat.le_of_ble_eq_true rfl) (fun p e s m args below meth c hF hP ls hl => ?_) sz
  have hS : va_S (AF E (LM ++ X).length s.heap.size) s.heap s.heap [] := va_S.rf
  have hl : lv_has ls 7 [(0, .ref (E 0)), (1, .int a1), (2, .int a2)] := hl
  show WL p l e rm_X10_follow s m args below meth c (LM ++ X) Y D E o s.heap [] (F0 m 0 ls [])
  unfold f_X10_follow at h
  obtain ⟨hC, hb, hml, hr, hlk, hD, hSW⟩ := id hF
  have hx := hC.1
  refine lv_iconst (v := 0) hx hb dX10_follow_0 (by decide) ?_
  refine lv_istore_n (lv' := [(3, .int 0), (0, .ref (E 0)), (1, .int a1), (2, .int a2)]) hx hb dX10_follow_1 rfl hl (by decide) rfl (fun ls hl => ?_)
  exact t_X10_follow_2 hX  hF FU a1 a2 0 σ _ _ _ h hP hS (lv_sub hl [1, 2, 3, 0] rfl)

abbrev rm_X10_make : Room := { frames := 3, cells := 0, slots := 0, locals := 74 }
def f_X10_make_245 (q2 n2 : Nat) (k42 : Int32 → Int32 → Int32 → Sta → Option (Unit × Sta)) (k64 : Int32 → Int32 → Int32 → Int32 → Int32 → Sta → Option (Unit × Sta)) (k98 : Int32 → Int32 → Int32 → Int32 → Int32 → Int32 → Sta → Option (Unit × Sta)) (v1 : Int32) (v3 : Int32) (v4 : Int32) (v5 : Int32) (v6 : Int32) (v7 : Int32) (σ : Sta) : Option (Unit × Sta) :=
  lt (v7 + 1) (fun x1 =>
  k98 v1 v3 v4 v5 v6 x1 σ)
set_option maxHeartbeats 4000000 in
set_option maxRecDepth 100000 in
theorem t_X10_make_245 {l : Launch} {D : va_G} {Y : CYs} {E : Nat → Nat} {X : List Dsc} (hX : Lok (LM ++ X)) {p : Program} {e : Env} {s : State} {m : MethodId} {args : Array Value} {below : List Frame} {meth : Method} {c : Code} {q2 n2 : Nat} {z2 : List (Nat × Nat)} (hq2 : (LM ++ X)[q2]? = some (1, n2, z2)) (hF : Fr p s m args meth c RX10 cX10_make 12 none D Y E (LM ++ X)) {o : Unit × Sta} (k42 : Int32 → Int32 → Int32 → Sta → Option (Unit × Sta)) (k64 : Int32 → Int32 → Int32 → Int32 → Int32 → Sta → Option (Unit × Sta)) (k98 : Int32 → Int32 → Int32 → Int32 → Int32 → Int32 → Sta → Option (Unit × Sta)) (hk42 : ∀ (v1 : Int32) (v3 : Int32) (v4 : Int32) (σ : Sta) (H : Heap) (locs : List Loc) (ls : Array Slot), k42 v1 v3 v4 σ = some o → va_P D vwCl (wd Y E σ 0 (LM ++ X)) H → va_S (AF E (LM ++ X).length s.heap.size) s.heap H locs → lv_has ls 12 [(0, .ref (E 0)), (1, .int v1), (2, .ref (E q2)), (3, .int v3), (4, .int v4)] → WV p l e rm_X10_make s m args below meth c (LM ++ X) Y D E o H locs (F0 m 42 ls [])) (hk64 : ∀ (v1 : Int32) (v3 : Int32) (v4 : Int32) (v5 : Int32) (v6 : Int32) (σ : Sta) (H : Heap) (locs : List Loc) (ls : Array Slot), k64 v1 v3 v4 v5 v6 σ = some o → va_P D vwCl (wd Y E σ 0 (LM ++ X)) H → va_S (AF E (LM ++ X).length s.heap.size) s.heap H locs → lv_has ls 12 [(0, .ref (E 0)), (1, .int v1), (2, .ref (E q2)), (3, .int v3), (4, .int v4), (5, .int v5), (6, .int v6)] → WV p l e rm_X10_make s m args below meth c (LM ++ X) Y D E o H locs (F0 m 64 ls [])) (hk98 : ∀ (v1 : Int32) (v3 : Int32) (v4 : Int32) (v5 : Int32) (v6 : Int32) (v7 : Int32) (σ : Sta) (H : Heap) (locs : List Loc) (ls : Array Slot), k98 v1 v3 v4 v5 v6 v7 σ = some o → va_P D vwCl (wd Y E σ 0 (LM ++ X)) H → va_S (AF E (LM ++ X).length s.heap.size) s.heap H locs → lv_has ls 12 [(0, .ref (E 0)), (1, .int v1), (2, .ref (E q2)), (3, .int v3), (4, .int v4), (5, .int v5), (6, .int v6), (7, .int v7)] → WV p l e rm_X10_make s m args below meth c (LM ++ X) Y D E o H locs (F0 m 98 ls [])) : ∀ (v1 : Int32) (v3 : Int32) (v4 : Int32) (v5 : Int32) (v6 : Int32) (v7 : Int32) (σ : Sta) (H : Heap) (locs : List Loc) (ls : Array Slot), f_X10_make_245 q2 n2 k42 k64 k98 v1 v3 v4 v5 v6 v7 σ = some o → va_P D vwCl (wd Y E σ 0 (LM ++ X)) H → va_S (AF E (LM ++ X).length s.heap.size) s.heap H locs → lv_has ls 12 [(0, .ref (E 0)), (1, .int v1), (2, .ref (E q2)), (3, .int v3), (4, .int v4), (5, .int v5), (6, .int v6), (7, .int v7)] → WV p l e rm_X10_make s m args below meth c (LM ++ X) Y D E o H locs (F0 m 245 ls []) := by
  intro v1 v3 v4 v5 v6 v7 σ H locs ls h hP hS hl
  unfold f_X10_make_245 at h
  obtain ⟨hC, hb, hml, hr, hlk, hD, hSW⟩ := id hF
  have hx := hC.1
  obtain ⟨x1, ex1⟩ : ∃ y : Int32, y = v7 + 1 := ⟨_, rfl⟩
  have h := of_lt h ex1
  refine lv_iinc (v := x1) (lv' := [(7, .int x1), (0, .ref (E 0)), (1, .int v1), (2, .ref (E q2)), (3, .int v3), (4, .int v4), (5, .int v5), (6, .int v6)]) hx hb dX10_make_245 hl (k := 7) rfl (by rw [ex1]; rfl) (by decide) rfl (fun ls hl => ?_)
  refine lv_goto (tgt := 98) hx hb dX10_make_248 (by decide) ?_
  exact hk98 v1 v3 v4 v5 v6 x1 σ _ _ _ h hP hS (lv_sub hl [1, 2, 3, 4, 5, 6, 7, 0] rfl)

def f_X10_make_221 (q2 n2 : Nat) (k42 : Int32 → Int32 → Int32 → Sta → Option (Unit × Sta)) (k64 : Int32 → Int32 → Int32 → Int32 → Int32 → Sta → Option (Unit × Sta)) (k98 : Int32 → Int32 → Int32 → Int32 → Int32 → Int32 → Sta → Option (Unit × Sta)) (v1 : Int32) (v3 : Int32) (v4 : Int32) (v5 : Int32) (v6 : Int32) (v7 : Int32) (v9 : Int64) (σ : Sta) : Option (Unit × Sta) :=
  if v5 + v6 < 0 ∨ 68200 ≤ ((v5 + v6).toNatClampNeg) then none else (
  lt (sA σ 31 (upd (gA σ 31) ((v5 + v6).toNatClampNeg) v7)) (fun σ2 =>
  if v5 + v6 < 0 ∨ 68200 ≤ ((v5 + v6).toNatClampNeg) then none else (
  lt (sJ σ2 32 (vp_updL (gJ σ2 32) ((v5 + v6).toNatClampNeg) v9)) (fun σ4 =>
  f_X10_make_245 q2 n2 k42 k64 k98 v1 v3 v4 v5 v6 v7 σ4))))
set_option maxHeartbeats 4000000 in
set_option maxRecDepth 100000 in
theorem t_X10_make_221 {l : Launch} {D : va_G} {Y : CYs} {E : Nat → Nat} {X : List Dsc} (hX : Lok (LM ++ X)) {p : Program} {e : Env} {s : State} {m : MethodId} {args : Array Value} {below : List Frame} {meth : Method} {c : Code} {q2 n2 : Nat} {z2 : List (Nat × Nat)} (hq2 : (LM ++ X)[q2]? = some (1, n2, z2)) (hF : Fr p s m args meth c RX10 cX10_make 12 none D Y E (LM ++ X)) {o : Unit × Sta} (k42 : Int32 → Int32 → Int32 → Sta → Option (Unit × Sta)) (k64 : Int32 → Int32 → Int32 → Int32 → Int32 → Sta → Option (Unit × Sta)) (k98 : Int32 → Int32 → Int32 → Int32 → Int32 → Int32 → Sta → Option (Unit × Sta)) (hk42 : ∀ (v1 : Int32) (v3 : Int32) (v4 : Int32) (σ : Sta) (H : Heap) (locs : List Loc) (ls : Array Slot), k42 v1 v3 v4 σ = some o → va_P D vwCl (wd Y E σ 0 (LM ++ X)) H → va_S (AF E (LM ++ X).length s.heap.size) s.heap H locs → lv_has ls 12 [(0, .ref (E 0)), (1, .int v1), (2, .ref (E q2)), (3, .int v3), (4, .int v4)] → WV p l e rm_X10_make s m args below meth c (LM ++ X) Y D E o H locs (F0 m 42 ls [])) (hk64 : ∀ (v1 : Int32) (v3 : Int32) (v4 : Int32) (v5 : Int32) (v6 : Int32) (σ : Sta) (H : Heap) (locs : List Loc) (ls : Array Slot), k64 v1 v3 v4 v5 v6 σ = some o → va_P D vwCl (wd Y E σ 0 (LM ++ X)) H → va_S (AF E (LM ++ X).length s.heap.size) s.heap H locs → lv_has ls 12 [(0, .ref (E 0)), (1, .int v1), (2, .ref (E q2)), (3, .int v3), (4, .int v4), (5, .int v5), (6, .int v6)] → WV p l e rm_X10_make s m args below meth c (LM ++ X) Y D E o H locs (F0 m 64 ls [])) (hk98 : ∀ (v1 : Int32) (v3 : Int32) (v4 : Int32) (v5 : Int32) (v6 : Int32) (v7 : Int32) (σ : Sta) (H : Heap) (locs : List Loc) (ls : Array Slot), k98 v1 v3 v4 v5 v6 v7 σ = some o → va_P D vwCl (wd Y E σ 0 (LM ++ X)) H → va_S (AF E (LM ++ X).length s.heap.size) s.heap H locs → lv_has ls 12 [(0, .ref (E 0)), (1, .int v1), (2, .ref (E q2)), (3, .int v3), (4, .int v4), (5, .int v5), (6, .int v6), (7, .int v7)] → WV p l e rm_X10_make s m args below meth c (LM ++ X) Y D E o H locs (F0 m 98 ls [])) : ∀ (v1 : Int32) (v3 : Int32) (v4 : Int32) (v5 : Int32) (v6 : Int32) (v7 : Int32) (v9 : Int64) (σ : Sta) (H : Heap) (locs : List Loc) (ls : Array Slot), f_X10_make_221 q2 n2 k42 k64 k98 v1 v3 v4 v5 v6 v7 v9 σ = some o → va_P D vwCl (wd Y E σ 0 (LM ++ X)) H → va_S (AF E (LM ++ X).length s.heap.size) s.heap H locs → lv_has ls 12 [(0, .ref (E 0)), (1, .int v1), (2, .ref (E q2)), (3, .int v3), (4, .int v4), (5, .int v5), (6, .int v6), (7, .int v7), (9, .long v9)] → WV p l e rm_X10_make s m args below meth c (LM ++ X) Y D E o H locs (F0 m 221 ls []) := by
  intro v1 v3 v4 v5 v6 v7 v9 σ H locs ls h hP hS hl
  unfold f_X10_make_221 at h
  obtain ⟨hC, hb, hml, hr, hlk, hD, hSW⟩ := id hF
  have hx := hC.1
  refine lv_aload_n hx hb dX10_make_221 rfl (lv_at hl 0 rfl) ?_
  refine gf_X10_107 hC hb hP dX10_make_222 ?_
  refine lv_iload hx hb dX10_make_225 (lv_at hl 5 rfl) ?_
  refine lv_iload hx hb dX10_make_227 (lv_at hl 6 rfl) ?_
  refine lv_iadd hx hb dX10_make_229 ?_
  refine lv_iload hx hb dX10_make_230 (lv_at hl 7 rfl) ?_
  obtain ⟨g1, h⟩ := of_gd h
  refine x_iast hX hC hb hP hD hS (lm_31 X) g1 dX10_make_232 (fun H locs σ2 eσ2 hP hS => ?_)
  have h := of_lt h eσ2
  refine lv_aload_n hx hb dX10_make_233 rfl (lv_at hl 0 rfl) ?_
  refine gf_X10_110 hC hb hP dX10_make_234 ?_
  refine lv_iload hx hb dX10_make_237 (lv_at hl 5 rfl) ?_
  refine lv_iload hx hb dX10_make_239 (lv_at hl 6 rfl) ?_
  refine lv_iadd hx hb dX10_make_241 ?_
  refine lv_lload hx hb dX10_make_242 (lv_at hl 8 rfl) ?_
  obtain ⟨g3, h⟩ := of_gd h
  refine x_last hX hC hb hP hD hS (lm_32 X) g3 dX10_make_244 (fun H locs σ4 eσ4 hP hS => ?_)
  have h := of_lt h eσ4
  exact t_X10_make_245 hX  hq2 hF k42 k64 k98 hk42 hk64 hk98 v1 v3 v4 v5 v6 v7 σ4 _ _ _ h hP hS (lv_sub hl [0, 1, 2, 3, 4, 5, 6, 7] rfl)

def f_X10_make_126 (q2 n2 : Nat) (k42 : Int32 → Int32 → Int32 → Sta → Option (Unit × Sta)) (k64 : Int32 → Int32 → Int32 → Int32 → Int32 → Sta → Option (Unit × Sta)) (k98 : Int32 → Int32 → Int32 → Int32 → Int32 → Int32 → Sta → Option (Unit × Sta)) : Nat → Int32 → Int32 → Int32 → Int32 → Int32 → Int32 → Int32 → Int64 → Int32 → Sta → Option (Unit × Sta)
  | 0, _, _, _, _, _, _, _, _, _, _ => none
  | n + 1, v1, v3, v4, v5, v6, v7, v8, v9, v11, σ => if gI σ 15 ≤ v11 then
      bnd (f_X10_expected v8 32 68200 (v5 - 100) σ) (fun r2 σ3 =>
      lt ((10000 * v9) + r2) (fun x5 =>
      if v5 + v6 < 0 ∨ 68200 ≤ ((v5 + v6).toNatClampNeg) then none else (
      if gA σ3 31 ((v5 + v6).toNatClampNeg) = -1 then
        f_X10_make_221 q2 n2 k42 k64 k98 v1 v3 v4 v5 v6 v7 x5 σ3
      else
        if v5 + v6 < 0 ∨ 68200 ≤ ((v5 + v6).toNatClampNeg) then none else (
        if 0 < lg_cmp x5 (gJ σ3 32 ((v5 + v6).toNatClampNeg)) then
          f_X10_make_221 q2 n2 k42 k64 k98 v1 v3 v4 v5 v6 v7 x5 σ3
        else
          f_X10_make_245 q2 n2 k42 k64 k98 v1 v3 v4 v5 v6 v7 σ3))))
    else
      if v11 < 0 ∨ n2 ≤ (v11.toNatClampNeg) then none else (
      if (3 * v8) + v11 < 0 ∨ 4800 ≤ (((3 * v8) + v11).toNatClampNeg) then none else (
      lt (v9 + (((gA σ q2 (v11.toNatClampNeg)).toInt64) * (gJ σ 25 (((3 * v8) + v11).toNatClampNeg)))) (fun x12 =>
      lt (v11 + 1) (fun x13 =>
      f_X10_make_126 q2 n2 k42 k64 k98 n v1 v3 v4 v5 v6 v7 v8 x12 x13 σ))))
set_option maxHeartbeats 4000000 in
set_option maxRecDepth 100000 in
theorem t_X10_make_126 {l : Launch} {D : va_G} {Y : CYs} {E : Nat → Nat} {X : List Dsc} (hX : Lok (LM ++ X)) {p : Program} {e : Env} {s : State} {m : MethodId} {args : Array Value} {below : List Frame} {meth : Method} {c : Code} {q2 n2 : Nat} {z2 : List (Nat × Nat)} (hq2 : (LM ++ X)[q2]? = some (1, n2, z2)) (hF : Fr p s m args meth c RX10 cX10_make 12 none D Y E (LM ++ X)) {o : Unit × Sta} (k42 : Int32 → Int32 → Int32 → Sta → Option (Unit × Sta)) (k64 : Int32 → Int32 → Int32 → Int32 → Int32 → Sta → Option (Unit × Sta)) (k98 : Int32 → Int32 → Int32 → Int32 → Int32 → Int32 → Sta → Option (Unit × Sta)) (hk42 : ∀ (v1 : Int32) (v3 : Int32) (v4 : Int32) (σ : Sta) (H : Heap) (locs : List Loc) (ls : Array Slot), k42 v1 v3 v4 σ = some o → va_P D vwCl (wd Y E σ 0 (LM ++ X)) H → va_S (AF E (LM ++ X).length s.heap.size) s.heap H locs → lv_has ls 12 [(0, .ref (E 0)), (1, .int v1), (2, .ref (E q2)), (3, .int v3), (4, .int v4)] → WV p l e rm_X10_make s m args below meth c (LM ++ X) Y D E o H locs (F0 m 42 ls [])) (hk64 : ∀ (v1 : Int32) (v3 : Int32) (v4 : Int32) (v5 : Int32) (v6 : Int32) (σ : Sta) (H : Heap) (locs : List Loc) (ls : Array Slot), k64 v1 v3 v4 v5 v6 σ = some o → va_P D vwCl (wd Y E σ 0 (LM ++ X)) H → va_S (AF E (LM ++ X).length s.heap.size) s.heap H locs → lv_has ls 12 [(0, .ref (E 0)), (1, .int v1), (2, .ref (E q2)), (3, .int v3), (4, .int v4), (5, .int v5), (6, .int v6)] → WV p l e rm_X10_make s m args below meth c (LM ++ X) Y D E o H locs (F0 m 64 ls [])) (hk98 : ∀ (v1 : Int32) (v3 : Int32) (v4 : Int32) (v5 : Int32) (v6 : Int32) (v7 : Int32) (σ : Sta) (H : Heap) (locs : List Loc) (ls : Array Slot), k98 v1 v3 v4 v5 v6 v7 σ = some o → va_P D vwCl (wd Y E σ 0 (LM ++ X)) H → va_S (AF E (LM ++ X).length s.heap.size) s.heap H locs → lv_has ls 12 [(0, .ref (E 0)), (1, .int v1), (2, .ref (E q2)), (3, .int v3), (4, .int v4), (5, .int v5), (6, .int v6), (7, .int v7)] → WV p l e rm_X10_make s m args below meth c (LM ++ X) Y D E o H locs (F0 m 98 ls [])) : ∀ (n : Nat) (v1 : Int32) (v3 : Int32) (v4 : Int32) (v5 : Int32) (v6 : Int32) (v7 : Int32) (v8 : Int32) (v9 : Int64) (v11 : Int32) (σ : Sta) (H : Heap) (locs : List Loc) (ls : Array Slot), f_X10_make_126 q2 n2 k42 k64 k98 n v1 v3 v4 v5 v6 v7 v8 v9 v11 σ = some o → va_P D vwCl (wd Y E σ 0 (LM ++ X)) H → va_S (AF E (LM ++ X).length s.heap.size) s.heap H locs → lv_has ls 12 [(0, .ref (E 0)), (1, .int v1), (2, .ref (E q2)), (3, .int v3), (4, .int v4), (5, .int v5), (6, .int v6), (7, .int v7), (8, .int v8), (9, .long v9), (11, .int v11)] → WV p l e rm_X10_make s m args below meth c (LM ++ X) Y D E o H locs (F0 m 126 ls []) := by
  intro n
  induction n with
  | zero =>
    intro v1 v3 v4 v5 v6 v7 v8 v9 v11 σ H locs ls h hP hS hl
    exact nomatch (show (none : Option (Unit × Sta)) = some o from h)
  | succ n ih =>
    intro v1 v3 v4 v5 v6 v7 v8 v9 v11 σ H locs ls h hP hS hl
    rw [f_X10_make_126] at h
    obtain ⟨hC, hb, hml, hr, hlk, hD, hSW⟩ := id hF
    have hx := hC.1
    refine lv_iload hx hb dX10_make_126 (lv_at hl 10 rfl) ?_
    refine lv_aload_n hx hb dX10_make_128 rfl (lv_at hl 0 rfl) ?_
    refine gf_X10_201 hC hb hP dX10_make_129 ?_
    refine lv_icmp_ge (tgt := 164) hx hb dX10_make_132 (by decide) (fun c1 => ?_) (fun c1 => ?_)
    · have h := of_t h c1
      refine lv_ldc2 (v := 10000) hx hb hC.2.2.1 (hC.2.1 (Cond.constantLong RX10 408 10000) (gw_t (tb8 (List.mem_of_getElem? (i := 44) rfl)) rfl)) dX10_make_164 ?_
      refine lv_lload hx hb dX10_make_167 (lv_at hl 9 rfl) ?_
      refine lv_lmul hx hb dX10_make_169 ?_
      refine lv_aload_n hx hb dX10_make_170 rfl (lv_at hl 0 rfl) ?_
      refine lv_iload hx hb dX10_make_171 (lv_at hl 8 rfl) ?_
      refine lv_aload_n hx hb dX10_make_173 rfl (lv_at hl 0 rfl) ?_
      refine gf_X10_110 hC hb hP dX10_make_174 ?_
      refine lv_iload hx hb dX10_make_177 (lv_at hl 5 rfl) ?_
      refine lv_bipush (v := 100) hx hb dX10_make_179 (by decide) ?_
      refine lv_isub hx hb dX10_make_181 ?_
      obtain ⟨r2, σ3, g4, h⟩ := of_bnd h
      refine x_VL (As := [.int v8, .ref (E 32), .int (v5 - 100)]) (rest := [.long (10000 * v9)]) hF hl hP hS (c_X10_expected hX (lm_32 X) g4) (cw_X10_410 hC rfl rfl ⟨Nat.le_of_ble_eq_true rfl, Nat.le_of_ble_eq_true rfl⟩) (lm_0 X) rfl rfl rfl (Nat.le_of_ble_eq_true rfl) dX10_make_182 ⟨Nat.zero_le _, Nat.zero_le _⟩ (fun H locs hP hS => ?_)
      refine lv_ladd hx hb dX10_make_185 ?_
      refine lv_topl (fun x5 ex5 => ?_)
      have h := of_lt h ex5
      refine lv_lstore (lv' := [(9, .long x5), (0, .ref (E 0)), (1, .int v1), (2, .ref (E q2)), (3, .int v3), (4, .int v4), (5, .int v5), (6, .int v6), (7, .int v7), (8, .int v8), (11, .int v11)]) hx hb dX10_make_186 hl (by decide) rfl (fun ls hl => ?_)
      refine lv_aload_n hx hb dX10_make_188 rfl (lv_at hl 1 rfl) ?_
      refine gf_X10_107 hC hb hP dX10_make_189 ?_
      refine lv_iload hx hb dX10_make_192 (lv_at hl 6 rfl) ?_
      refine lv_iload hx hb dX10_make_194 (lv_at hl 7 rfl) ?_
      refine lv_iadd hx hb dX10_make_196 ?_
      obtain ⟨g6, h⟩ := of_gd h
      refine x_iald hC hb hP (lm_31 X) g6 dX10_make_197 ?_
      refine lv_iconst (v := -1) hx hb dX10_make_198 (by decide) ?_
      refine lv_icmp_eq (tgt := 221) hx hb dX10_make_199 (by decide) (fun c7 => ?_) (fun c7 => ?_)
      · have h := of_t h c7
        exact t_X10_make_221 hX  hq2 hF k42 k64 k98 hk42 hk64 hk98 v1 v3 v4 v5 v6 v7 x5 σ3 _ _ _ h hP hS (lv_sub hl [1, 2, 3, 4, 5, 6, 7, 8, 0] rfl)
      · have h := of_f h c7
        refine lv_lload hx hb dX10_make_202 (lv_at hl 0 rfl) ?_
        refine lv_aload_n hx hb dX10_make_204 rfl (lv_at hl 1 rfl) ?_
        refine gf_X10_110 hC hb hP dX10_make_205 ?_
        refine lv_iload hx hb dX10_make_208 (lv_at hl 6 rfl) ?_
        refine lv_iload hx hb dX10_make_210 (lv_at hl 7 rfl) ?_
        refine lv_iadd hx hb dX10_make_212 ?_
        obtain ⟨g8, h⟩ := of_gd h
        refine x_lald hC hb hP (lm_32 X) g8 dX10_make_213 ?_
        refine W.lcmp hx hb dX10_make_214 ?_
        refine lv_if_gt (tgt := 221) hx hb dX10_make_215 (by decide) (fun c9 => ?_) (fun c9 => ?_)
        · have h := of_t h c9
          exact t_X10_make_221 hX  hq2 hF k42 k64 k98 hk42 hk64 hk98 v1 v3 v4 v5 v6 v7 x5 σ3 _ _ _ h hP hS (lv_sub hl [1, 2, 3, 4, 5, 6, 7, 8, 0] rfl)
        · have h := of_f h c9
          refine lv_goto (tgt := 245) hx hb dX10_make_218 (by decide) ?_
          exact t_X10_make_245 hX  hq2 hF k42 k64 k98 hk42 hk64 hk98 v1 v3 v4 v5 v6 v7 σ3 _ _ _ h hP hS (lv_sub hl [1, 2, 3, 4, 5, 6, 7, 8] rfl)
    · have h := of_f h c1
      refine lv_lload hx hb dX10_make_135 (lv_at hl 9 rfl) ?_
      refine lv_aload_n hx hb dX10_make_137 rfl (lv_at hl 2 rfl) ?_
      refine lv_iload hx hb dX10_make_138 (lv_at hl 10 rfl) ?_
      obtain ⟨g10, h⟩ := of_gd h
      refine x_iald hC hb hP hq2 g10 dX10_make_140 ?_
      refine lv_i2l (v := (gA σ q2 (v11.toNatClampNeg)).toInt64) hx hb dX10_make_141 rfl ?_
      refine lv_aload_n hx hb dX10_make_142 rfl (lv_at hl 0 rfl) ?_
      refine gf_X10_88 hC hb hP dX10_make_143 ?_
      refine lv_iconst (v := 3) hx hb dX10_make_146 (by decide) ?_
      refine lv_iload hx hb dX10_make_147 (lv_at hl 8 rfl) ?_
      refine lv_imul hx hb dX10_make_149 ?_
      refine lv_iload hx hb dX10_make_150 (lv_at hl 10 rfl) ?_
      refine lv_iadd hx hb dX10_make_152 ?_
      obtain ⟨g11, h⟩ := of_gd h
      refine x_lald hC hb hP (lm_25 X) g11 dX10_make_153 ?_
      refine lv_lmul hx hb dX10_make_154 ?_
      refine lv_ladd hx hb dX10_make_155 ?_
      refine lv_topl (fun x12 ex12 => ?_)
      have h := of_lt h ex12
      refine lv_lstore (lv' := [(9, .long x12), (0, .ref (E 0)), (1, .int v1), (2, .ref (E q2)), (3, .int v3), (4, .int v4), (5, .int v5), (6, .int v6), (7, .int v7), (8, .int v8), (11, .int v11)]) hx hb dX10_make_156 hl (by decide) rfl (fun ls hl => ?_)
      obtain ⟨x13, ex13⟩ : ∃ y : Int32, y = v11 + 1 := ⟨_, rfl⟩
      have h := of_lt h ex13
      refine lv_iinc (v := x13) (lv' := [(11, .int x13), (9, .long x12), (0, .ref (E 0)), (1, .int v1), (2, .ref (E q2)), (3, .int v3), (4, .int v4), (5, .int v5), (6, .int v6), (7, .int v7), (8, .int v8)]) hx hb dX10_make_158 hl (k := 10) rfl (by rw [ex13]; rfl) (by decide) rfl (fun ls hl => ?_)
      refine lv_goto (tgt := 126) hx hb dX10_make_161 (by decide) ?_
      exact ih v1 v3 v4 v5 v6 v7 v8 x12 x13 σ _ _ _ h hP hS (lv_sub hl [2, 3, 4, 5, 6, 7, 8, 9, 10, 1, 0] rfl)

def f_X10_make_98 (q2 n2 : Nat) (k42 : Int32 → Int32 → Int32 → Sta → Option (Unit × Sta)) (k64 : Int32 → Int32 → Int32 → Int32 → Int32 → Sta → Option (Unit × Sta)) : Nat → Int32 → Int32 → Int32 → Int32 → Int32 → Int32 → Sta → Option (Unit × Sta)
  | 0, _, _, _, _, _, _, _ => none
  | n + 1, v1, v3, v4, v5, v6, v7, σ => if v6 < 0 ∨ 100 ≤ (v6.toNatClampNeg) then none else (
    if gA σ 23 (v6.toNatClampNeg) ≤ v7 then
      lt (v6 + 1) (fun x3 =>
      k64 v1 v3 v4 v5 x3 σ)
    else
      lt ((16 * v6) + v7) (fun x4 =>
      f_X10_make_126 q2 n2 k42 k64 (f_X10_make_98 q2 n2 k42 k64 n) FU v1 v3 v4 v5 v6 v7 x4 0 0 σ))
set_option maxHeartbeats 4000000 in
set_option maxRecDepth 100000 in
theorem t_X10_make_98 {l : Launch} {D : va_G} {Y : CYs} {E : Nat → Nat} {X : List Dsc} (hX : Lok (LM ++ X)) {p : Program} {e : Env} {s : State} {m : MethodId} {args : Array Value} {below : List Frame} {meth : Method} {c : Code} {q2 n2 : Nat} {z2 : List (Nat × Nat)} (hq2 : (LM ++ X)[q2]? = some (1, n2, z2)) (hF : Fr p s m args meth c RX10 cX10_make 12 none D Y E (LM ++ X)) {o : Unit × Sta} (k42 : Int32 → Int32 → Int32 → Sta → Option (Unit × Sta)) (k64 : Int32 → Int32 → Int32 → Int32 → Int32 → Sta → Option (Unit × Sta)) (hk42 : ∀ (v1 : Int32) (v3 : Int32) (v4 : Int32) (σ : Sta) (H : Heap) (locs : List Loc) (ls : Array Slot), k42 v1 v3 v4 σ = some o → va_P D vwCl (wd Y E σ 0 (LM ++ X)) H → va_S (AF E (LM ++ X).length s.heap.size) s.heap H locs → lv_has ls 12 [(0, .ref (E 0)), (1, .int v1), (2, .ref (E q2)), (3, .int v3), (4, .int v4)] → WV p l e rm_X10_make s m args below meth c (LM ++ X) Y D E o H locs (F0 m 42 ls [])) (hk64 : ∀ (v1 : Int32) (v3 : Int32) (v4 : Int32) (v5 : Int32) (v6 : Int32) (σ : Sta) (H : Heap) (locs : List Loc) (ls : Array Slot), k64 v1 v3 v4 v5 v6 σ = some o → va_P D vwCl (wd Y E σ 0 (LM ++ X)) H → va_S (AF E (LM ++ X).length s.heap.size) s.heap H locs → lv_has ls 12 [(0, .ref (E 0)), (1, .int v1), (2, .ref (E q2)), (3, .int v3), (4, .int v4), (5, .int v5), (6, .int v6)] → WV p l e rm_X10_make s m args below meth c (LM ++ X) Y D E o H locs (F0 m 64 ls [])) : ∀ (n : Nat) (v1 : Int32) (v3 : Int32) (v4 : Int32) (v5 : Int32) (v6 : Int32) (v7 : Int32) (σ : Sta) (H : Heap) (locs : List Loc) (ls : Array Slot), f_X10_make_98 q2 n2 k42 k64 n v1 v3 v4 v5 v6 v7 σ = some o → va_P D vwCl (wd Y E σ 0 (LM ++ X)) H → va_S (AF E (LM ++ X).length s.heap.size) s.heap H locs → lv_has ls 12 [(0, .ref (E 0)), (1, .int v1), (2, .ref (E q2)), (3, .int v3), (4, .int v4), (5, .int v5), (6, .int v6), (7, .int v7)] → WV p l e rm_X10_make s m args below meth c (LM ++ X) Y D E o H locs (F0 m 98 ls []) := by
  intro n
  induction n with
  | zero =>
    intro v1 v3 v4 v5 v6 v7 σ H locs ls h hP hS hl
    exact nomatch (show (none : Option (Unit × Sta)) = some o from h)
  | succ n ih =>
    intro v1 v3 v4 v5 v6 v7 σ H locs ls h hP hS hl
    rw [f_X10_make_98] at h
    obtain ⟨hC, hb, hml, hr, hlk, hD, hSW⟩ := id hF
    have hx := hC.1
    refine lv_iload hx hb dX10_make_98 (lv_at hl 7 rfl) ?_
    refine lv_aload_n hx hb dX10_make_100 rfl (lv_at hl 0 rfl) ?_
    refine gf_X10_82 hC hb hP dX10_make_101 ?_
    refine lv_iload hx hb dX10_make_104 (lv_at hl 6 rfl) ?_
    obtain ⟨g1, h⟩ := of_gd h
    refine x_iald hC hb hP (lm_23 X) g1 dX10_make_106 ?_
    refine lv_icmp_ge (tgt := 251) hx hb dX10_make_107 (by decide) (fun c2 => ?_) (fun c2 => ?_)
    · have h := of_t h c2
      obtain ⟨x3, ex3⟩ : ∃ y : Int32, y = v6 + 1 := ⟨_, rfl⟩
      have h := of_lt h ex3
      refine lv_iinc (v := x3) (lv' := [(6, .int x3), (0, .ref (E 0)), (1, .int v1), (2, .ref (E q2)), (3, .int v3), (4, .int v4), (5, .int v5), (7, .int v7)]) hx hb dX10_make_251 hl (k := 6) rfl (by rw [ex3]; rfl) (by decide) rfl (fun ls hl => ?_)
      refine lv_goto (tgt := 64) hx hb dX10_make_254 (by decide) ?_
      exact hk64 v1 v3 v4 v5 x3 σ _ _ _ h hP hS (lv_sub hl [1, 2, 3, 4, 5, 6, 0] rfl)
    · have h := of_f h c2
      refine lv_bipush (v := 16) hx hb dX10_make_110 (by decide) ?_
      refine lv_iload hx hb dX10_make_112 (lv_at hl 6 rfl) ?_
      refine lv_imul hx hb dX10_make_114 ?_
      refine lv_iload hx hb dX10_make_115 (lv_at hl 7 rfl) ?_
      refine lv_iadd hx hb dX10_make_117 ?_
      refine lv_topi (fun x4 ex4 => ?_)
      have h := of_lt h ex4
      refine lv_istore (lv' := [(8, .int x4), (0, .ref (E 0)), (1, .int v1), (2, .ref (E q2)), (3, .int v3), (4, .int v4), (5, .int v5), (6, .int v6), (7, .int v7)]) hx hb dX10_make_118 hl (by decide) rfl (fun ls hl => ?_)
      refine lv_lconst (v := 0) hx hb dX10_make_120 (by decide) ?_
      refine lv_lstore (lv' := [(9, .long 0), (8, .int x4), (0, .ref (E 0)), (1, .int v1), (2, .ref (E q2)), (3, .int v3), (4, .int v4), (5, .int v5), (6, .int v6), (7, .int v7)]) hx hb dX10_make_121 hl (by decide) rfl (fun ls hl => ?_)
      refine lv_iconst (v := 0) hx hb dX10_make_123 (by decide) ?_
      refine lv_istore (lv' := [(11, .int 0), (9, .long 0), (8, .int x4), (0, .ref (E 0)), (1, .int v1), (2, .ref (E q2)), (3, .int v3), (4, .int v4), (5, .int v5), (6, .int v6), (7, .int v7)]) hx hb dX10_make_124 hl (by decide) rfl (fun ls hl => ?_)
      exact t_X10_make_126 hX  hq2 hF k42 k64 (f_X10_make_98 q2 n2 k42 k64 n) hk42 hk64 ih FU v1 v3 v4 v5 v6 v7 x4 0 0 σ _ _ _ h hP hS (lv_sub hl [3, 4, 5, 6, 7, 8, 9, 10, 2, 1, 0] rfl)

def f_X10_make_64 (q2 n2 : Nat) (k42 : Int32 → Int32 → Int32 → Sta → Option (Unit × Sta)) : Nat → Int32 → Int32 → Int32 → Int32 → Int32 → Sta → Option (Unit × Sta)
  | 0, _, _, _, _, _, _ => none
  | n + 1, v1, v3, v4, v5, v6, σ => if gI σ 37 ≤ v6 then
      lt (v4 + 1) (fun x2 =>
      k42 v1 v3 x2 σ)
    else
      if v5 + v6 < 0 ∨ 68200 ≤ ((v5 + v6).toNatClampNeg) then none else (
      lt (sA σ 31 (upd (gA σ 31) ((v5 + v6).toNatClampNeg) (-1))) (fun σ4 =>
      if v5 + v6 < 0 ∨ 68200 ≤ ((v5 + v6).toNatClampNeg) then none else (
      lt (sJ σ4 32 (vp_updL (gJ σ4 32) ((v5 + v6).toNatClampNeg) 0)) (fun σ6 =>
      f_X10_make_98 q2 n2 k42 (f_X10_make_64 q2 n2 k42 n) FU v1 v3 v4 v5 v6 0 σ6))))
set_option maxHeartbeats 4000000 in
set_option maxRecDepth 100000 in
theorem t_X10_make_64 {l : Launch} {D : va_G} {Y : CYs} {E : Nat → Nat} {X : List Dsc} (hX : Lok (LM ++ X)) {p : Program} {e : Env} {s : State} {m : MethodId} {args : Array Value} {below : List Frame} {meth : Method} {c : Code} {q2 n2 : Nat} {z2 : List (Nat × Nat)} (hq2 : (LM ++ X)[q2]? = some (1, n2, z2)) (hF : Fr p s m args meth c RX10 cX10_make 12 none D Y E (LM ++ X)) {o : Unit × Sta} (k42 : Int32 → Int32 → Int32 → Sta → Option (Unit × Sta)) (hk42 : ∀ (v1 : Int32) (v3 : Int32) (v4 : Int32) (σ : Sta) (H : Heap) (locs : List Loc) (ls : Array Slot), k42 v1 v3 v4 σ = some o → va_P D vwCl (wd Y E σ 0 (LM ++ X)) H → va_S (AF E (LM ++ X).length s.heap.size) s.heap H locs → lv_has ls 12 [(0, .ref (E 0)), (1, .int v1), (2, .ref (E q2)), (3, .int v3), (4, .int v4)] → WV p l e rm_X10_make s m args below meth c (LM ++ X) Y D E o H locs (F0 m 42 ls [])) : ∀ (n : Nat) (v1 : Int32) (v3 : Int32) (v4 : Int32) (v5 : Int32) (v6 : Int32) (σ : Sta) (H : Heap) (locs : List Loc) (ls : Array Slot), f_X10_make_64 q2 n2 k42 n v1 v3 v4 v5 v6 σ = some o → va_P D vwCl (wd Y E σ 0 (LM ++ X)) H → va_S (AF E (LM ++ X).length s.heap.size) s.heap H locs → lv_has ls 12 [(0, .ref (E 0)), (1, .int v1), (2, .ref (E q2)), (3, .int v3), (4, .int v4), (5, .int v5), (6, .int v6)] → WV p l e rm_X10_make s m args below meth c (LM ++ X) Y D E o H locs (F0 m 64 ls []) := by
  intro n
  induction n with
  | zero =>
    intro v1 v3 v4 v5 v6 σ H locs ls h hP hS hl
    exact nomatch (show (none : Option (Unit × Sta)) = some o from h)
  | succ n ih =>
    intro v1 v3 v4 v5 v6 σ H locs ls h hP hS hl
    rw [f_X10_make_64] at h
    obtain ⟨hC, hb, hml, hr, hlk, hD, hSW⟩ := id hF
    have hx := hC.1
    refine lv_iload hx hb dX10_make_64 (lv_at hl 6 rfl) ?_
    refine lv_aload_n hx hb dX10_make_66 rfl (lv_at hl 0 rfl) ?_
    refine gf_X10_213 hC hb hP dX10_make_67 ?_
    refine lv_icmp_ge (tgt := 257) hx hb dX10_make_70 (by decide) (fun c1 => ?_) (fun c1 => ?_)
    · have h := of_t h c1
      obtain ⟨x2, ex2⟩ : ∃ y : Int32, y = v4 + 1 := ⟨_, rfl⟩
      have h := of_lt h ex2
      refine lv_iinc (v := x2) (lv' := [(4, .int x2), (0, .ref (E 0)), (1, .int v1), (2, .ref (E q2)), (3, .int v3), (5, .int v5), (6, .int v6)]) hx hb dX10_make_257 hl (k := 4) rfl (by rw [ex2]; rfl) (by decide) rfl (fun ls hl => ?_)
      refine lv_goto (tgt := 42) hx hb dX10_make_260 (by decide) ?_
      exact hk42 v1 v3 x2 σ _ _ _ h hP hS (lv_sub hl [1, 2, 3, 4, 0] rfl)
    · have h := of_f h c1
      refine lv_aload_n hx hb dX10_make_73 rfl (lv_at hl 0 rfl) ?_
      refine gf_X10_107 hC hb hP dX10_make_74 ?_
      refine lv_iload hx hb dX10_make_77 (lv_at hl 5 rfl) ?_
      refine lv_iload hx hb dX10_make_79 (lv_at hl 6 rfl) ?_
      refine lv_iadd hx hb dX10_make_81 ?_
      refine lv_iconst (v := -1) hx hb dX10_make_82 (by decide) ?_
      obtain ⟨g3, h⟩ := of_gd h
      refine x_iast hX hC hb hP hD hS (lm_31 X) g3 dX10_make_83 (fun H locs σ4 eσ4 hP hS => ?_)
      have h := of_lt h eσ4
      refine lv_aload_n hx hb dX10_make_84 rfl (lv_at hl 0 rfl) ?_
      refine gf_X10_110 hC hb hP dX10_make_85 ?_
      refine lv_iload hx hb dX10_make_88 (lv_at hl 5 rfl) ?_
      refine lv_iload hx hb dX10_make_90 (lv_at hl 6 rfl) ?_
      refine lv_iadd hx hb dX10_make_92 ?_
      refine lv_lconst (v := 0) hx hb dX10_make_93 (by decide) ?_
      obtain ⟨g5, h⟩ := of_gd h
      refine x_last hX hC hb hP hD hS (lm_32 X) g5 dX10_make_94 (fun H locs σ6 eσ6 hP hS => ?_)
      have h := of_lt h eσ6
      refine lv_iconst (v := 0) hx hb dX10_make_95 (by decide) ?_
      refine lv_istore (lv' := [(7, .int 0), (0, .ref (E 0)), (1, .int v1), (2, .ref (E q2)), (3, .int v3), (4, .int v4), (5, .int v5), (6, .int v6)]) hx hb dX10_make_96 hl (by decide) rfl (fun ls hl => ?_)
      exact t_X10_make_98 hX  hq2 hF k42 (f_X10_make_64 q2 n2 k42 n) hk42 ih FU v1 v3 v4 v5 v6 0 σ6 _ _ _ h hP hS (lv_sub hl [1, 2, 3, 4, 5, 6, 7, 0] rfl)

def f_X10_make_266 (q2 n2 : Nat) : Nat → Int32 → Int32 → Sta → Option (Unit × Sta)
  | 0, _, _, _ => none
  | n + 1, v1, v4, σ => if gI σ 15 ≤ v4 then
      bnd (f_X10_follow v1 (-1) σ) (fun r2 σ3 =>
      if v1 < 0 ∨ 22 ≤ (v1.toNatClampNeg) then none else (
      lt (sA σ3 34 (upd (gA σ3 34) (v1.toNatClampNeg) r2.toInt32)) (fun σ6 =>
      some ((), σ6))))
    else
      bnd (f_X10_follow v1 v4 σ) (fun r7 σ8 =>
      if (3 * v1) + v4 < 0 ∨ 66 ≤ (((3 * v1) + v4).toNatClampNeg) then none else (
      lt (sJ σ8 33 (vp_updL (gJ σ8 33) (((3 * v1) + v4).toNatClampNeg) r7)) (fun σ11 =>
      lt (v4 + 1) (fun x12 =>
      f_X10_make_266 q2 n2 n v1 x12 σ11))))
set_option maxHeartbeats 4000000 in
set_option maxRecDepth 100000 in
theorem t_X10_make_266 {l : Launch} {D : va_G} {Y : CYs} {E : Nat → Nat} {X : List Dsc} (hX : Lok (LM ++ X)) {p : Program} {e : Env} {s : State} {m : MethodId} {args : Array Value} {below : List Frame} {meth : Method} {c : Code} {q2 n2 : Nat} {z2 : List (Nat × Nat)} (hq2 : (LM ++ X)[q2]? = some (1, n2, z2)) (hF : Fr p s m args meth c RX10 cX10_make 12 none D Y E (LM ++ X)) {o : Unit × Sta} : ∀ (n : Nat) (v1 : Int32) (v4 : Int32) (σ : Sta) (H : Heap) (locs : List Loc) (ls : Array Slot), f_X10_make_266 q2 n2 n v1 v4 σ = some o → va_P D vwCl (wd Y E σ 0 (LM ++ X)) H → va_S (AF E (LM ++ X).length s.heap.size) s.heap H locs → lv_has ls 12 [(0, .ref (E 0)), (1, .int v1), (4, .int v4)] → WV p l e rm_X10_make s m args below meth c (LM ++ X) Y D E o H locs (F0 m 266 ls []) := by
  intro n
  induction n with
  | zero =>
    intro v1 v4 σ H locs ls h hP hS hl
    exact nomatch (show (none : Option (Unit × Sta)) = some o from h)
  | succ n ih =>
    intro v1 v4 σ H locs ls h hP hS hl
    rw [f_X10_make_266] at h
    obtain ⟨hC, hb, hml, hr, hlk, hD, hSW⟩ := id hF
    have hx := hC.1
    refine lv_iload hx hb dX10_make_266 (lv_at hl 2 rfl) ?_
    refine lv_aload_n hx hb dX10_make_268 rfl (lv_at hl 0 rfl) ?_
    refine gf_X10_201 hC hb hP dX10_make_269 ?_
    refine lv_icmp_ge (tgt := 299) hx hb dX10_make_272 (by decide) (fun c1 => ?_) (fun c1 => ?_)
    · have h := of_t h c1
      refine lv_aload_n hx hb dX10_make_299 rfl (lv_at hl 0 rfl) ?_
      refine gf_X10_116 hC hb hP dX10_make_300 ?_
      refine lv_iload_n hx hb dX10_make_303 rfl (lv_at hl 1 rfl) ?_
      refine lv_aload_n hx hb dX10_make_304 rfl (lv_at hl 0 rfl) ?_
      refine lv_iload_n hx hb dX10_make_305 rfl (lv_at hl 1 rfl) ?_
      refine lv_iconst (v := -1) hx hb dX10_make_306 (by decide) ?_
      obtain ⟨r2, σ3, g4, h⟩ := of_bnd h
      refine x_VL (As := [.int v1, .int (-1)]) (rest := [.int v1, .ref (E 34)]) hF hl hP hS (c_X10_follow hX g4) (cw_X10_414 hC rfl rfl ⟨Nat.le_of_ble_eq_true rfl, Nat.le_of_ble_eq_true rfl⟩) (lm_0 X) rfl rfl rfl (Nat.le_of_ble_eq_true rfl) dX10_make_307 ⟨Nat.zero_le _, Nat.zero_le _⟩ (fun H locs hP hS => ?_)
      refine lv_l2i (v := r2.toInt32) hx hb dX10_make_310 rfl ?_
      obtain ⟨g5, h⟩ := of_gd h
      refine x_iast hX hC hb hP hD hS (lm_34 X) g5 dX10_make_311 (fun H locs σ6 eσ6 hP hS => ?_)
      have h := of_lt h eσ6
      exact x_vret hF hP hS h dX10_make_312
    · have h := of_f h c1
      refine lv_aload_n hx hb dX10_make_275 rfl (lv_at hl 0 rfl) ?_
      refine gf_X10_113 hC hb hP dX10_make_276 ?_
      refine lv_iconst (v := 3) hx hb dX10_make_279 (by decide) ?_
      refine lv_iload_n hx hb dX10_make_280 rfl (lv_at hl 1 rfl) ?_
      refine lv_imul hx hb dX10_make_281 ?_
      refine lv_iload hx hb dX10_make_282 (lv_at hl 2 rfl) ?_
      refine lv_iadd hx hb dX10_make_284 ?_
      refine lv_aload_n hx hb dX10_make_285 rfl (lv_at hl 0 rfl) ?_
      refine lv_iload_n hx hb dX10_make_286 rfl (lv_at hl 1 rfl) ?_
      refine lv_iload hx hb dX10_make_287 (lv_at hl 2 rfl) ?_
      obtain ⟨r7, σ8, g9, h⟩ := of_bnd h
      refine x_VL (As := [.int v1, .int v4]) (rest := [.int ((3 * v1) + v4), .ref (E 33)]) hF hl hP hS (c_X10_follow hX g9) (cw_X10_414 hC rfl rfl ⟨Nat.le_of_ble_eq_true rfl, Nat.le_of_ble_eq_true rfl⟩) (lm_0 X) rfl rfl rfl (Nat.le_of_ble_eq_true rfl) dX10_make_289 ⟨Nat.zero_le _, Nat.zero_le _⟩ (fun H locs hP hS => ?_)
      obtain ⟨g10, h⟩ := of_gd h
      refine x_last hX hC hb hP hD hS (lm_33 X) g10 dX10_make_292 (fun H locs σ11 eσ11 hP hS => ?_)
      have h := of_lt h eσ11
      obtain ⟨x12, ex12⟩ : ∃ y : Int32, y = v4 + 1 := ⟨_, rfl⟩
      have h := of_lt h ex12
      refine lv_iinc (v := x12) (lv' := [(4, .int x12), (0, .ref (E 0)), (1, .int v1)]) hx hb dX10_make_293 hl (k := 2) rfl (by rw [ex12]; rfl) (by decide) rfl (fun ls hl => ?_)
      refine lv_goto (tgt := 266) hx hb dX10_make_296 (by decide) ?_
      exact ih v1 x12 σ11 _ _ _ h hP hS (lv_sub hl [1, 2, 0] rfl)

def f_X10_make_42 (q2 n2 : Nat) : Nat → Int32 → Int32 → Int32 → Sta → Option (Unit × Sta)
  | 0, _, _, _, _ => none
  | n + 1, v1, v3, v4, σ => if v3 < v4 then
      f_X10_make_266 q2 n2 FU v1 0 σ
    else
      lt ((3100 * v1) + (100 * v4)) (fun x2 =>
      f_X10_make_64 q2 n2 (f_X10_make_42 q2 n2 n) FU v1 v3 v4 x2 0 σ)
set_option maxHeartbeats 4000000 in
set_option maxRecDepth 100000 in
theorem t_X10_make_42 {l : Launch} {D : va_G} {Y : CYs} {E : Nat → Nat} {X : List Dsc} (hX : Lok (LM ++ X)) {p : Program} {e : Env} {s : State} {m : MethodId} {args : Array Value} {below : List Frame} {meth : Method} {c : Code} {q2 n2 : Nat} {z2 : List (Nat × Nat)} (hq2 : (LM ++ X)[q2]? = some (1, n2, z2)) (hF : Fr p s m args meth c RX10 cX10_make 12 none D Y E (LM ++ X)) {o : Unit × Sta} : ∀ (n : Nat) (v1 : Int32) (v3 : Int32) (v4 : Int32) (σ : Sta) (H : Heap) (locs : List Loc) (ls : Array Slot), f_X10_make_42 q2 n2 n v1 v3 v4 σ = some o → va_P D vwCl (wd Y E σ 0 (LM ++ X)) H → va_S (AF E (LM ++ X).length s.heap.size) s.heap H locs → lv_has ls 12 [(0, .ref (E 0)), (1, .int v1), (2, .ref (E q2)), (3, .int v3), (4, .int v4)] → WV p l e rm_X10_make s m args below meth c (LM ++ X) Y D E o H locs (F0 m 42 ls []) := by
  intro n
  induction n with
  | zero =>
    intro v1 v3 v4 σ H locs ls h hP hS hl
    exact nomatch (show (none : Option (Unit × Sta)) = some o from h)
  | succ n ih =>
    intro v1 v3 v4 σ H locs ls h hP hS hl
    rw [f_X10_make_42] at h
    obtain ⟨hC, hb, hml, hr, hlk, hD, hSW⟩ := id hF
    have hx := hC.1
    refine lv_iload hx hb dX10_make_42 (lv_at hl 4 rfl) ?_
    refine lv_iload_n hx hb dX10_make_44 rfl (lv_at hl 3 rfl) ?_
    refine lv_icmp_gt (tgt := 263) hx hb dX10_make_45 (by decide) (fun c1 => ?_) (fun c1 => ?_)
    · have h := of_t h c1
      refine lv_iconst (v := 0) hx hb dX10_make_263 (by decide) ?_
      refine lv_istore (lv' := [(4, .int 0), (0, .ref (E 0)), (1, .int v1), (2, .ref (E q2)), (3, .int v3)]) hx hb dX10_make_264 hl (by decide) rfl (fun ls hl => ?_)
      exact t_X10_make_266 hX  hq2 hF FU v1 0 σ _ _ _ h hP hS (lv_sub hl [1, 2, 0] rfl)
    · have h := of_f h c1
      refine lv_sipush (v := 3100) hx hb dX10_make_48 (by decide) ?_
      refine lv_iload_n hx hb dX10_make_51 rfl (lv_at hl 1 rfl) ?_
      refine lv_imul hx hb dX10_make_52 ?_
      refine lv_bipush (v := 100) hx hb dX10_make_53 (by decide) ?_
      refine lv_iload hx hb dX10_make_55 (lv_at hl 4 rfl) ?_
      refine lv_imul hx hb dX10_make_57 ?_
      refine lv_iadd hx hb dX10_make_58 ?_
      refine lv_topi (fun x2 ex2 => ?_)
      have h := of_lt h ex2
      refine lv_istore (lv' := [(5, .int x2), (0, .ref (E 0)), (1, .int v1), (2, .ref (E q2)), (3, .int v3), (4, .int v4)]) hx hb dX10_make_59 hl (by decide) rfl (fun ls hl => ?_)
      refine lv_iconst (v := 0) hx hb dX10_make_61 (by decide) ?_
      refine lv_istore (lv' := [(6, .int 0), (5, .int x2), (0, .ref (E 0)), (1, .int v1), (2, .ref (E q2)), (3, .int v3), (4, .int v4)]) hx hb dX10_make_62 hl (by decide) rfl (fun ls hl => ?_)
      exact t_X10_make_64 hX  hq2 hF (f_X10_make_42 q2 n2 n) ih FU v1 v3 v4 x2 0 σ _ _ _ h hP hS (lv_sub hl [2, 3, 4, 5, 6, 1, 0] rfl)

def f_X10_make_10 (q2 n2 : Nat) : Nat → Int32 → Int32 → Int32 → Sta → Option (Unit × Sta)
  | 0, _, _, _, _ => none
  | n + 1, v1, v3, v4, σ => if gI σ 37 ≤ v4 then
      f_X10_make_42 q2 n2 FU v1 v3 1 σ
    else
      if (3100 * v1) + v4 < 0 ∨ 68200 ≤ (((3100 * v1) + v4).toNatClampNeg) then none else (
      lt (sJ σ 32 (vp_updL (gJ σ 32) (((3100 * v1) + v4).toNatClampNeg) 0)) (fun σ3 =>
      lt (v4 + 1) (fun x4 =>
      f_X10_make_10 q2 n2 n v1 v3 x4 σ3)))
set_option maxHeartbeats 4000000 in
set_option maxRecDepth 100000 in
theorem t_X10_make_10 {l : Launch} {D : va_G} {Y : CYs} {E : Nat → Nat} {X : List Dsc} (hX : Lok (LM ++ X)) {p : Program} {e : Env} {s : State} {m : MethodId} {args : Array Value} {below : List Frame} {meth : Method} {c : Code} {q2 n2 : Nat} {z2 : List (Nat × Nat)} (hq2 : (LM ++ X)[q2]? = some (1, n2, z2)) (hF : Fr p s m args meth c RX10 cX10_make 12 none D Y E (LM ++ X)) {o : Unit × Sta} : ∀ (n : Nat) (v1 : Int32) (v3 : Int32) (v4 : Int32) (σ : Sta) (H : Heap) (locs : List Loc) (ls : Array Slot), f_X10_make_10 q2 n2 n v1 v3 v4 σ = some o → va_P D vwCl (wd Y E σ 0 (LM ++ X)) H → va_S (AF E (LM ++ X).length s.heap.size) s.heap H locs → lv_has ls 12 [(0, .ref (E 0)), (1, .int v1), (2, .ref (E q2)), (3, .int v3), (4, .int v4)] → WV p l e rm_X10_make s m args below meth c (LM ++ X) Y D E o H locs (F0 m 10 ls []) := by
  intro n
  induction n with
  | zero =>
    intro v1 v3 v4 σ H locs ls h hP hS hl
    exact nomatch (show (none : Option (Unit × Sta)) = some o from h)
  | succ n ih =>
    intro v1 v3 v4 σ H locs ls h hP hS hl
    rw [f_X10_make_10] at h
    obtain ⟨hC, hb, hml, hr, hlk, hD, hSW⟩ := id hF
    have hx := hC.1
    refine lv_iload hx hb dX10_make_10 (lv_at hl 4 rfl) ?_
    refine lv_aload_n hx hb dX10_make_12 rfl (lv_at hl 0 rfl) ?_
    refine gf_X10_213 hC hb hP dX10_make_13 ?_
    refine lv_icmp_ge (tgt := 39) hx hb dX10_make_16 (by decide) (fun c1 => ?_) (fun c1 => ?_)
    · have h := of_t h c1
      refine lv_iconst (v := 1) hx hb dX10_make_39 (by decide) ?_
      refine lv_istore (lv' := [(4, .int 1), (0, .ref (E 0)), (1, .int v1), (2, .ref (E q2)), (3, .int v3)]) hx hb dX10_make_40 hl (by decide) rfl (fun ls hl => ?_)
      exact t_X10_make_42 hX  hq2 hF FU v1 v3 1 σ _ _ _ h hP hS (lv_sub hl [1, 2, 3, 4, 0] rfl)
    · have h := of_f h c1
      refine lv_aload_n hx hb dX10_make_19 rfl (lv_at hl 0 rfl) ?_
      refine gf_X10_110 hC hb hP dX10_make_20 ?_
      refine lv_sipush (v := 3100) hx hb dX10_make_23 (by decide) ?_
      refine lv_iload_n hx hb dX10_make_26 rfl (lv_at hl 1 rfl) ?_
      refine lv_imul hx hb dX10_make_27 ?_
      refine lv_iload hx hb dX10_make_28 (lv_at hl 4 rfl) ?_
      refine lv_iadd hx hb dX10_make_30 ?_
      refine lv_lconst (v := 0) hx hb dX10_make_31 (by decide) ?_
      obtain ⟨g2, h⟩ := of_gd h
      refine x_last hX hC hb hP hD hS (lm_32 X) g2 dX10_make_32 (fun H locs σ3 eσ3 hP hS => ?_)
      have h := of_lt h eσ3
      obtain ⟨x4, ex4⟩ : ∃ y : Int32, y = v4 + 1 := ⟨_, rfl⟩
      have h := of_lt h ex4
      refine lv_iinc (v := x4) (lv' := [(4, .int x4), (0, .ref (E 0)), (1, .int v1), (2, .ref (E q2)), (3, .int v3)]) hx hb dX10_make_33 hl (k := 4) rfl (by rw [ex4]; rfl) (by decide) rfl (fun ls hl => ?_)
      refine lv_goto (tgt := 10) hx hb dX10_make_36 (by decide) ?_
      exact ih v1 v3 x4 σ3 _ _ _ h hP hS (lv_sub hl [1, 2, 3, 4, 0] rfl)

def f_X10_make (a1 : Int32) (q2 n2 : Nat) (a3 : Int32) (σ : Sta) : Option (Unit × Sta) :=
  if a1 < 0 ∨ 22 ≤ (a1.toNatClampNeg) then none else (
  lt (sA σ 30 (upd (gA σ 30) (a1.toNatClampNeg) a3)) (fun σ2 =>
  f_X10_make_10 q2 n2 FU a1 a3 0 σ2))
set_option maxHeartbeats 4000000 in
set_option maxRecDepth 100000 in
theorem c_X10_make {l : Launch} {D : va_G} {Y : CYs} {E : Nat → Nat} {X : List Dsc} (hX : Lok (LM ++ X)) {a1 : Int32} {q2 n2 : Nat} {a3 : Int32} {z2 : List (Nat × Nat)} (hq2 : (LM ++ X)[q2]? = some (1, n2, z2)) {σ : Sta} {o : Unit × Sta} (h : f_X10_make a1 q2 n2 a3 σ = some o) : MV l yX10_make (Cond.code yX10_make cX10_make 12 none :: gW) rm_X10_make (LM ++ X) Y D E [.ref (E 0), .int a1, .ref (E q2), .int a3] σ o := by
  intro sz
  refine Met_of (Qc := fun sz => QV (LM ++ X) Y D E sz o) (by decide) (Nat.le_of_ble_eq_true rfl) (fun p e s m args below meth c hF hP ls hl => ?_) sz
  have hS : va_S (AF E (LM ++ X).length s.heap.size) s.heap s.heap [] := va_S.rf
  have hl : lv_has ls 12 [(0, .ref (E 0)), (1, .int a1), (2, .ref (E q2)), (3, .int a3)] := hl
  show WV p l e rm_X10_make s m args below meth c (LM ++ X) Y D E o s.heap [] (F0 m 0 ls [])
  unfold f_X10_make at h
  obtain ⟨hC, hb, hml, hr, hlk, hD, hSW⟩ := id hF
  have hx := hC.1
  refine lv_aload_n hx hb dX10_make_0 rfl (lv_at hl 0 rfl) ?_
  refine gf_X10_103 hC hb hP dX10_make_1 ?_
  refine lv_iload_n hx hb dX10_make_4 rfl (lv_at hl 1 rfl) ?_
  refine lv_iload_n hx hb dX10_make_5 rfl (lv_at hl 3 rfl) ?_
  obtain ⟨g1, h⟩ := of_gd h
  refine x_iast hX hC hb hP hD hS (lm_30 X) g1 dX10_make_6 (fun H locs σ2 eσ2 hP hS => ?_)
  have h := of_lt h eσ2
  refine lv_iconst (v := 0) hx hb dX10_make_7 (by decide) ?_
  refine lv_istore (lv' := [(4, .int 0), (0, .ref (E 0)), (1, .int a1), (2, .ref (E q2)), (3, .int a3)]) hx hb dX10_make_8 hl (by decide) rfl (fun ls hl => ?_)
  exact t_X10_make_10 hX  hq2 hF FU a1 a3 0 σ2 _ _ _ h hP hS (lv_sub hl [1, 2, 3, 4, 0] rfl)

abbrev rm_X10_weigh : Room := { frames := 2, cells := 0, slots := 0, locals := 46 }
def f_X10_weigh (a1 : Int32) (a2 : Int32) (σ : Sta) : Option (Int32 × Sta) :=
  lt (sI σ 0 0) (fun σ1 =>
  bnd (f_X10_isGain a1 σ1) (fun r2 σ3 =>
  if r2 = 0 then
    bnd (f_X10_fail 1 σ3) (fun r17 σ18 =>
    some (r17, σ18))
  else
    bnd (f_X10_isIn a2.toInt64 (-9) 9 σ3) (fun r6 σ7 =>
    if r6 = 0 then
      bnd (f_X10_fail 2 σ7) (fun r14 σ15 =>
      some (r14, σ15))
    else
      if a1 < 0 ∨ 3 ≤ (a1.toNatClampNeg) then none else (
      lt (gA σ7 29 (a1.toNatClampNeg)) (fun x11 =>
      if a1 < 0 ∨ 3 ≤ (a1.toNatClampNeg) then none else (
      lt (sA σ7 29 (upd (gA σ7 29) (a1.toNatClampNeg) a2)) (fun σ13 =>
      some (x11, σ13))))))))
set_option maxHeartbeats 4000000 in
set_option maxRecDepth 100000 in
theorem c_X10_weigh {l : Launch} {D : va_G} {Y : CYs} {E : Nat → Nat} {X : List Dsc} (hX : Lok (LM ++ X)) {a1 : Int32} {a2 : Int32} {σ : Sta} {o : Int32 × Sta} (h : f_X10_weigh a1 a2 σ = some o) : MI l yX10_weigh (Cond.code yX10_weigh cX10_weigh 4 (some .int) :: gW) rm_X10_weigh (LM ++ X) Y D E [.ref (E 0), .int a1, .int a2] σ o := by
  intro sz
  refine Met_of (Qc := fun sz => QI (LM ++ X) Y D E sz o) (by decide) (Nat.le_of_ble_eq_true rfl) (fun p e s m args below meth c hF hP ls hl => ?_) sz
  have hS : va_S (AF E (LM ++ X).length s.heap.size) s.heap s.heap [] := va_S.rf
  have hl : lv_has ls 4 [(0, .ref (E 0)), (1, .int a1), (2, .int a2)] := hl
  show WI p l e rm_X10_weigh s m args below meth c (LM ++ X) Y D E o s.heap [] (F0 m 0 ls [])
  unfold f_X10_weigh at h
  obtain ⟨hC, hb, hml, hr, hlk, hD, hSW⟩ := id hF
  have hx := hC.1
  refine lv_aload_n hx hb dX10_weigh_0 rfl (lv_at hl 0 rfl) ?_
  refine lv_iconst (v := 0) hx hb dX10_weigh_1 (by decide) ?_
  refine pf_X10_140 hX hC hb hP hD hS dX10_weigh_2 (fun H locs σ1 eσ1 hP hS => ?_)
  have h := of_lt h eσ1
  refine lv_aload_n hx hb dX10_weigh_5 rfl (lv_at hl 0 rfl) ?_
  refine lv_iload_n hx hb dX10_weigh_6 rfl (lv_at hl 1 rfl) ?_
  obtain ⟨r2, σ3, g4, h⟩ := of_bnd h
  refine x_VI (As := [.int a1]) (rest := []) hF hl hP hS (c_X10_isGain hX g4) (cw_X10_419 hC rfl rfl ⟨Nat.le_of_ble_eq_true rfl, Nat.le_of_ble_eq_true rfl⟩) (lm_0 X) rfl rfl rfl (Nat.le_of_ble_eq_true rfl) dX10_weigh_7 ⟨Nat.zero_le _, Nat.zero_le _⟩ (fun H locs hP hS => ?_)
  refine lv_if_ne (tgt := 19) hx hb dX10_weigh_10 (by decide) (fun c5 => ?_) (fun c5 => ?_)
  · have h := of_f h c5
    refine lv_iload_n hx hb dX10_weigh_19 rfl (lv_at hl 2 rfl) ?_
    refine lv_i2l (v := a2.toInt64) hx hb dX10_weigh_20 rfl ?_
    refine lv_ldc2 (v := -9) hx hb hC.2.2.1 (hC.2.1 (Cond.constantLong RX10 422 (-9)) (gw_t (tb8 (List.mem_of_getElem? (i := 33) rfl)) rfl)) dX10_weigh_21 ?_
    refine lv_ldc2 (v := 9) hx hb hC.2.2.1 (hC.2.1 (Cond.constantLong RX10 424 9) (gw_t (tb8 (List.mem_of_getElem? (i := 34) rfl)) rfl)) dX10_weigh_24 ?_
    obtain ⟨r6, σ7, g8, h⟩ := of_bnd h
    refine x_SI (As := [.long a2.toInt64, .long (-9), .long 9]) (rest := []) hF hl hP hS (c_X10_isIn hX g8) (cw_X10_154 hC rfl rfl ⟨Nat.le_of_ble_eq_true rfl, Nat.le_of_ble_eq_true rfl⟩) rfl rfl (Nat.le_of_ble_eq_true rfl) dX10_weigh_27 ⟨Nat.zero_le _, Nat.zero_le _⟩ (fun H locs hP hS => ?_)
    refine lv_if_ne (tgt := 39) hx hb dX10_weigh_30 (by decide) (fun c9 => ?_) (fun c9 => ?_)
    · have h := of_f h c9
      refine lv_aload_n hx hb dX10_weigh_39 rfl (lv_at hl 0 rfl) ?_
      refine gf_X10_100 hC hb hP dX10_weigh_40 ?_
      refine lv_iload_n hx hb dX10_weigh_43 rfl (lv_at hl 1 rfl) ?_
      obtain ⟨g10, h⟩ := of_gd h
      refine x_iald hC hb hP (lm_29 X) g10 dX10_weigh_44 ?_
      refine lv_topi (fun x11 ex11 => ?_)
      have h := of_lt h ex11
      refine lv_istore_n (lv' := [(3, .int x11), (0, .ref (E 0)), (1, .int a1), (2, .int a2)]) hx hb dX10_weigh_45 rfl hl (by decide) rfl (fun ls hl => ?_)
      refine lv_aload_n hx hb dX10_weigh_46 rfl (lv_at hl 1 rfl) ?_
      refine gf_X10_100 hC hb hP dX10_weigh_47 ?_
      refine lv_iload_n hx hb dX10_weigh_50 rfl (lv_at hl 2 rfl) ?_
      refine lv_iload_n hx hb dX10_weigh_51 rfl (lv_at hl 3 rfl) ?_
      obtain ⟨g12, h⟩ := of_gd h
      refine x_iast hX hC hb hP hD hS (lm_29 X) g12 dX10_weigh_52 (fun H locs σ13 eσ13 hP hS => ?_)
      have h := of_lt h eσ13
      refine lv_iload_n hx hb dX10_weigh_53 rfl (lv_at hl 0 rfl) ?_
      exact x_iret hF hP hS h dX10_weigh_54
    · have h := of_t h c9
      refine lv_aload_n hx hb dX10_weigh_33 rfl (lv_at hl 0 rfl) ?_
      refine lv_iconst (v := 2) hx hb dX10_weigh_34 (by decide) ?_
      obtain ⟨r14, σ15, g16, h⟩ := of_bnd h
      refine x_VI (As := [.int 2]) (rest := []) hF hl hP hS (c_X10_fail hX g16) (cw_X10_146 hC rfl rfl ⟨Nat.le_of_ble_eq_true rfl, Nat.le_of_ble_eq_true rfl⟩) (lm_0 X) rfl rfl rfl (Nat.le_of_ble_eq_true rfl) dX10_weigh_35 ⟨Nat.zero_le _, Nat.zero_le _⟩ (fun H locs hP hS => ?_)
      exact x_iret hF hP hS h dX10_weigh_38
  · have h := of_t h c5
    refine lv_aload_n hx hb dX10_weigh_13 rfl (lv_at hl 0 rfl) ?_
    refine lv_iconst (v := 1) hx hb dX10_weigh_14 (by decide) ?_
    obtain ⟨r17, σ18, g19, h⟩ := of_bnd h
    refine x_VI (As := [.int 1]) (rest := []) hF hl hP hS (c_X10_fail hX g19) (cw_X10_146 hC rfl rfl ⟨Nat.le_of_ble_eq_true rfl, Nat.le_of_ble_eq_true rfl⟩) (lm_0 X) rfl rfl rfl (Nat.le_of_ble_eq_true rfl) dX10_weigh_15 ⟨Nat.zero_le _, Nat.zero_le _⟩ (fun H locs hP hS => ?_)
    exact x_iret hF hP hS h dX10_weigh_18

abbrev rm_X10_solve : Room := { frames := 4, cells := 0, slots := 0, locals := 105 }
def f_X10_solve_39 (σ : Sta) : Option (Int32 × Sta) :=
  bnd (f_X10_fail 2 σ) (fun r1 σ2 =>
  some (r1, σ2))
set_option maxHeartbeats 4000000 in
set_option maxRecDepth 100000 in
theorem t_X10_solve_39 {l : Launch} {D : va_G} {Y : CYs} {E : Nat → Nat} {X : List Dsc} (hX : Lok (LM ++ X)) {p : Program} {e : Env} {s : State} {m : MethodId} {args : Array Value} {below : List Frame} {meth : Method} {c : Code} (hF : Fr p s m args meth c RX10 cX10_solve 2 (some .int) D Y E (LM ++ X)) {o : Int32 × Sta} : ∀ (σ : Sta) (H : Heap) (locs : List Loc) (ls : Array Slot), f_X10_solve_39 σ = some o → va_P D vwCl (wd Y E σ 0 (LM ++ X)) H → va_S (AF E (LM ++ X).length s.heap.size) s.heap H locs → lv_has ls 2 [(0, .ref (E 0))] → WI p l e rm_X10_solve s m args below meth c (LM ++ X) Y D E o H locs (F0 m 39 ls []) := by
  intro σ H locs ls h hP hS hl
  unfold f_X10_solve_39 at h
  obtain ⟨hC, hb, hml, hr, hlk, hD, hSW⟩ := id hF
  have hx := hC.1
  refine lv_aload_n hx hb dX10_solve_39 rfl (lv_at hl 0 rfl) ?_
  refine lv_iconst (v := 2) hx hb dX10_solve_40 (by decide) ?_
  obtain ⟨r1, σ2, g3, h⟩ := of_bnd h
  refine x_VI (As := [.int 2]) (rest := []) hF hl hP hS (c_X10_fail hX g3) (cw_X10_146 hC rfl rfl ⟨Nat.le_of_ble_eq_true rfl, Nat.le_of_ble_eq_true rfl⟩) (lm_0 X) rfl rfl rfl (Nat.le_of_ble_eq_true rfl) dX10_solve_41 ⟨Nat.zero_le _, Nat.zero_le _⟩ (fun H locs hP hS => ?_)
  exact x_iret hF hP hS h dX10_solve_44

def f_X10_solve (a1 : Int32) (σ : Sta) : Option (Int32 × Sta) :=
  lt (sI σ 0 0) (fun σ1 =>
  bnd (f_X10_isIn a1.toInt64 1 30 σ1) (fun r2 σ3 =>
  if r2 = 0 then
    bnd (f_X10_fail 1 σ3) (fun r12 σ13 =>
    some (r12, σ13))
  else
    if gI σ3 37 = 0 then
      f_X10_solve_39 σ3
    else
      if gI σ3 47 = 12 then
        f_X10_solve_39 σ3
      else
        bnd (f_X10_make (gI σ3 47) 29 3 a1 σ3) (fun _ σ9 =>
        lt (sI σ9 47 ((gI σ9 47) + 1)) (fun σ11 =>
        some ((gI σ11 47) - 1, σ11)))))
set_option maxHeartbeats 4000000 in
set_option maxRecDepth 100000 in
theorem c_X10_solve {l : Launch} {D : va_G} {Y : CYs} {E : Nat → Nat} {X : List Dsc} (hX : Lok (LM ++ X)) {a1 : Int32} {σ : Sta} {o : Int32 × Sta} (h : f_X10_solve a1 σ = some o) : MI l yX10_solve (Cond.code yX10_solve cX10_solve 2 (some .int) :: gW) rm_X10_solve (LM ++ X) Y D E [.ref (E 0), .int a1] σ o := by
  intro sz
  refine Met_of (Qc := fun sz => QI (LM ++ X) Y D E sz o) (by decide) (Nat.le_of_ble_eq_true rfl) (fun p e s m args below meth c hF hP ls hl => ?_) sz
  have hS : va_S (AF E (LM ++ X).length s.heap.size) s.heap s.heap [] := va_S.rf
  have hl : lv_has ls 2 [(0, .ref (E 0)), (1, .int a1)] := hl
  show WI p l e rm_X10_solve s m args below meth c (LM ++ X) Y D E o s.heap [] (F0 m 0 ls [])
  unfold f_X10_solve at h
  obtain ⟨hC, hb, hml, hr, hlk, hD, hSW⟩ := id hF
  have hx := hC.1
  refine lv_aload_n hx hb dX10_solve_0 rfl (lv_at hl 0 rfl) ?_
  refine lv_iconst (v := 0) hx hb dX10_solve_1 (by decide) ?_
  refine pf_X10_140 hX hC hb hP hD hS dX10_solve_2 (fun H locs σ1 eσ1 hP hS => ?_)
  have h := of_lt h eσ1
  refine lv_iload_n hx hb dX10_solve_5 rfl (lv_at hl 1 rfl) ?_
  refine lv_i2l (v := a1.toInt64) hx hb dX10_solve_6 rfl ?_
  refine lv_lconst (v := 1) hx hb dX10_solve_7 (by decide) ?_
  refine lv_ldc2 (v := 30) hx hb hC.2.2.1 (hC.2.1 (Cond.constantLong RX10 426 30) (gw_t (tb8 (List.mem_of_getElem? (i := 39) rfl)) rfl)) dX10_solve_8 ?_
  obtain ⟨r2, σ3, g4, h⟩ := of_bnd h
  refine x_SI (As := [.long a1.toInt64, .long 1, .long 30]) (rest := []) hF hl hP hS (c_X10_isIn hX g4) (cw_X10_154 hC rfl rfl ⟨Nat.le_of_ble_eq_true rfl, Nat.le_of_ble_eq_true rfl⟩) rfl rfl (Nat.le_of_ble_eq_true rfl) dX10_solve_11 ⟨Nat.zero_le _, Nat.zero_le _⟩ (fun H locs hP hS => ?_)
  refine lv_if_ne (tgt := 23) hx hb dX10_solve_14 (by decide) (fun c5 => ?_) (fun c5 => ?_)
  · have h := of_f h c5
    refine lv_aload_n hx hb dX10_solve_23 rfl (lv_at hl 0 rfl) ?_
    refine gf_X10_213 hC hb hP dX10_solve_24 ?_
    refine lv_if_eq (tgt := 39) hx hb dX10_solve_27 (by decide) (fun c6 => ?_) (fun c6 => ?_)
    · have h := of_t h c6
      exact t_X10_solve_39 hX  hF σ3 _ _ _ h hP hS (lv_sub hl [0] rfl)
    · have h := of_f h c6
      refine lv_aload_n hx hb dX10_solve_30 rfl (lv_at hl 0 rfl) ?_
      refine gf_X10_216 hC hb hP dX10_solve_31 ?_
      refine lv_bipush (v := 12) hx hb dX10_solve_34 (by decide) ?_
      refine lv_icmp_ne (tgt := 45) hx hb dX10_solve_36 (by decide) (fun c7 => ?_) (fun c7 => ?_)
      · have h := of_f h c7
        refine lv_aload_n hx hb dX10_solve_45 rfl (lv_at hl 0 rfl) ?_
        refine lv_aload_n hx hb dX10_solve_46 rfl (lv_at hl 0 rfl) ?_
        refine gf_X10_216 hC hb hP dX10_solve_47 ?_
        refine lv_aload_n hx hb dX10_solve_50 rfl (lv_at hl 0 rfl) ?_
        refine gf_X10_100 hC hb hP dX10_solve_51 ?_
        refine lv_iload_n hx hb dX10_solve_54 rfl (lv_at hl 1 rfl) ?_
        obtain ⟨r8, σ9, g10, h⟩ := of_bnd h
        refine x_VV (As := [.int (gI σ3 47), .ref (E 29), .int a1]) (rest := []) hF hl hP hS (c_X10_make hX (lm_29 X) g10) (cw_X10_428 hC rfl rfl ⟨Nat.le_of_ble_eq_true rfl, Nat.le_of_ble_eq_true rfl⟩) (lm_0 X) rfl rfl rfl (Nat.le_of_ble_eq_true rfl) dX10_solve_55 ⟨Nat.zero_le _, Nat.zero_le _⟩ (fun H locs hP hS => ?_)
        refine lv_aload_n hx hb dX10_solve_58 rfl (lv_at hl 0 rfl) ?_
        refine lv_dup hx hb dX10_solve_59 rfl ?_
        refine gf_X10_216 hC hb hP dX10_solve_60 ?_
        refine lv_iconst (v := 1) hx hb dX10_solve_63 (by decide) ?_
        refine lv_iadd hx hb dX10_solve_64 ?_
        refine pf_X10_216 hX hC hb hP hD hS dX10_solve_65 (fun H locs σ11 eσ11 hP hS => ?_)
        have h := of_lt h eσ11
        refine lv_aload_n hx hb dX10_solve_68 rfl (lv_at hl 0 rfl) ?_
        refine gf_X10_216 hC hb hP dX10_solve_69 ?_
        refine lv_iconst (v := 1) hx hb dX10_solve_72 (by decide) ?_
        refine lv_isub hx hb dX10_solve_73 ?_
        exact x_iret hF hP hS h dX10_solve_74
      · have h := of_t h c7
        exact t_X10_solve_39 hX  hF σ3 _ _ _ h hP hS (lv_sub hl [0] rfl)
  · have h := of_t h c5
    refine lv_aload_n hx hb dX10_solve_17 rfl (lv_at hl 0 rfl) ?_
    refine lv_iconst (v := 1) hx hb dX10_solve_18 (by decide) ?_
    obtain ⟨r12, σ13, g14, h⟩ := of_bnd h
    refine x_VI (As := [.int 1]) (rest := []) hF hl hP hS (c_X10_fail hX g14) (cw_X10_146 hC rfl rfl ⟨Nat.le_of_ble_eq_true rfl, Nat.le_of_ble_eq_true rfl⟩) (lm_0 X) rfl rfl rfl (Nat.le_of_ble_eq_true rfl) dX10_solve_19 ⟨Nat.zero_le _, Nat.zero_le _⟩ (fun H locs hP hS => ?_)
    exact x_iret hF hP hS h dX10_solve_22

abbrev rm_X10_takes : Room := { frames := 2, cells := 0, slots := 0, locals := 46 }
def f_X10_takes_21 (σ : Sta) : Option (Int32 × Sta) :=
  bnd (f_X10_fail 1 σ) (fun r1 σ2 =>
  some (r1, σ2))
set_option maxHeartbeats 4000000 in
set_option maxRecDepth 100000 in
theorem t_X10_takes_21 {l : Launch} {D : va_G} {Y : CYs} {E : Nat → Nat} {X : List Dsc} (hX : Lok (LM ++ X)) {p : Program} {e : Env} {s : State} {m : MethodId} {args : Array Value} {below : List Frame} {meth : Method} {c : Code} (hF : Fr p s m args meth c RX10 cX10_takes 4 (some .int) D Y E (LM ++ X)) {o : Int32 × Sta} : ∀ (σ : Sta) (H : Heap) (locs : List Loc) (ls : Array Slot), f_X10_takes_21 σ = some o → va_P D vwCl (wd Y E σ 0 (LM ++ X)) H → va_S (AF E (LM ++ X).length s.heap.size) s.heap H locs → lv_has ls 4 [(0, .ref (E 0))] → WI p l e rm_X10_takes s m args below meth c (LM ++ X) Y D E o H locs (F0 m 21 ls []) := by
  intro σ H locs ls h hP hS hl
  unfold f_X10_takes_21 at h
  obtain ⟨hC, hb, hml, hr, hlk, hD, hSW⟩ := id hF
  have hx := hC.1
  refine lv_aload_n hx hb dX10_takes_21 rfl (lv_at hl 0 rfl) ?_
  refine lv_iconst (v := 1) hx hb dX10_takes_22 (by decide) ?_
  obtain ⟨r1, σ2, g3, h⟩ := of_bnd h
  refine x_VI (As := [.int 1]) (rest := []) hF hl hP hS (c_X10_fail hX g3) (cw_X10_146 hC rfl rfl ⟨Nat.le_of_ble_eq_true rfl, Nat.le_of_ble_eq_true rfl⟩) (lm_0 X) rfl rfl rfl (Nat.le_of_ble_eq_true rfl) dX10_takes_23 ⟨Nat.zero_le _, Nat.zero_le _⟩ (fun H locs hP hS => ?_)
  exact x_iret hF hP hS h dX10_takes_26

def f_X10_takes_68 (s0 : Int32) (σ : Sta) : Option (Int32 × Sta) :=
  some (s0, σ)
set_option maxHeartbeats 4000000 in
set_option maxRecDepth 100000 in
theorem t_X10_takes_68 {l : Launch} {D : va_G} {Y : CYs} {E : Nat → Nat} {X : List Dsc} (hX : Lok (LM ++ X)) {p : Program} {e : Env} {s : State} {m : MethodId} {args : Array Value} {below : List Frame} {meth : Method} {c : Code} (hF : Fr p s m args meth c RX10 cX10_takes 4 (some .int) D Y E (LM ++ X)) {o : Int32 × Sta} : ∀ (s0 : Int32) (σ : Sta) (H : Heap) (locs : List Loc) (ls : Array Slot), f_X10_takes_68 s0 σ = some o → va_P D vwCl (wd Y E σ 0 (LM ++ X)) H → va_S (AF E (LM ++ X).length s.heap.size) s.heap H locs → lv_has ls 4 [] → WI p l e rm_X10_takes s m args below meth c (LM ++ X) Y D E o H locs (F0 m 68 ls [.int s0]) := by
  intro s0 σ H locs ls h hP hS hl
  unfold f_X10_takes_68 at h
  obtain ⟨hC, hb, hml, hr, hlk, hD, hSW⟩ := id hF
  have hx := hC.1
  exact x_iret hF hP hS h dX10_takes_68

def f_X10_takes (a1 : Int32) (a2 : Int32) (a3 : Int32) (σ : Sta) : Option (Int32 × Sta) :=
  lt (sI σ 0 0) (fun σ1 =>
  bnd (f_X10_isStrategy a1 σ1) (fun r2 σ3 =>
  if r2 = 0 then
    f_X10_takes_21 σ3
  else
    bnd (f_X10_isState a2 σ3) (fun r6 σ7 =>
    if r6 = 0 then
      f_X10_takes_21 σ7
    else
      if a1 < 0 ∨ 22 ≤ (a1.toNatClampNeg) then none else (
      bnd (f_X10_isIn a3.toInt64 1 ((gA σ7 30 (a1.toNatClampNeg)).toInt64) σ7) (fun r11 σ12 =>
      if r11 = 0 then
        bnd (f_X10_fail 2 σ12) (fun r15 σ16 =>
        f_X10_takes_68 r15 σ16)
      else
        if ((3100 * a1) + (100 * a3)) + a2 < 0 ∨ 68200 ≤ ((((3100 * a1) + (100 * a3)) + a2).toNatClampNeg) then none else (
        f_X10_takes_68 (gA σ12 31 ((((3100 * a1) + (100 * a3)) + a2).toNatClampNeg)) σ12))))))
set_option maxHeartbeats 4000000 in
set_option maxRecDepth 100000 in
theorem c_X10_takes {l : Launch} {D : va_G} {Y : CYs} {E : Nat → Nat} {X : List Dsc} (hX : Lok (LM ++ X)) {a1 : Int32} {a2 : Int32} {a3 : Int32} {σ : Sta} {o : Int32 × Sta} (h : f_X10_takes a1 a2 a3 σ = some o) : MI l yX10_takes (Cond.code yX10_takes cX10_takes 4 (some .int) :: gW) rm_X10_takes (LM ++ X) Y D E [.ref (E 0), .int a1, .int a2, .int a3] σ o := by
  intro sz
  refine Met_of (Qc := fun sz => QI (LM ++ X) Y D E sz o) (by decide) (Nat.le_of_ble_eq_true rfl) (fun p e s m args below meth c hF hP ls hl => ?_) sz
  have hS : va_S (AF E (LM ++ X).length s.heap.size) s.heap s.heap [] := va_S.rf
  have hl : lv_has ls 4 [(0, .ref (E 0)), (1, .int a1), (2, .int a2), (3, .int a3)] := hl
  show WI p l e rm_X10_takes s m args below meth c (LM ++ X) Y D E o s.heap [] (F0 m 0 ls [])
  unfold f_X10_takes at h
  obtain ⟨hC, hb, hml, hr, hlk, hD, hSW⟩ := id hF
  have hx := hC.1
  refine lv_aload_n hx hb dX10_takes_0 rfl (lv_at hl 0 rfl) ?_
  refine lv_iconst (v := 0) hx hb dX10_takes_1 (by decide) ?_
  refine pf_X10_140 hX hC hb hP hD hS dX10_takes_2 (fun H locs σ1 eσ1 hP hS => ?_)
  have h := of_lt h eσ1
  refine lv_aload_n hx hb dX10_takes_5 rfl (lv_at hl 0 rfl) ?_
  refine lv_iload_n hx hb dX10_takes_6 rfl (lv_at hl 1 rfl) ?_
  obtain ⟨r2, σ3, g4, h⟩ := of_bnd h
  refine x_VI (As := [.int a1]) (rest := []) hF hl hP hS (c_X10_isStrategy hX g4) (cw_X10_432 hC rfl rfl ⟨Nat.le_of_ble_eq_true rfl, Nat.le_of_ble_eq_true rfl⟩) (lm_0 X) rfl rfl rfl (Nat.le_of_ble_eq_true rfl) dX10_takes_7 ⟨Nat.zero_le _, Nat.zero_le _⟩ (fun H locs hP hS => ?_)
  refine lv_if_eq (tgt := 21) hx hb dX10_takes_10 (by decide) (fun c5 => ?_) (fun c5 => ?_)
  · have h := of_t h c5
    exact t_X10_takes_21 hX  hF σ3 _ _ _ h hP hS (lv_sub hl [0] rfl)
  · have h := of_f h c5
    refine lv_aload_n hx hb dX10_takes_13 rfl (lv_at hl 0 rfl) ?_
    refine lv_iload_n hx hb dX10_takes_14 rfl (lv_at hl 2 rfl) ?_
    obtain ⟨r6, σ7, g8, h⟩ := of_bnd h
    refine x_VI (As := [.int a2]) (rest := []) hF hl hP hS (c_X10_isState hX g8) (cw_X10_359 hC rfl rfl ⟨Nat.le_of_ble_eq_true rfl, Nat.le_of_ble_eq_true rfl⟩) (lm_0 X) rfl rfl rfl (Nat.le_of_ble_eq_true rfl) dX10_takes_15 ⟨Nat.zero_le _, Nat.zero_le _⟩ (fun H locs hP hS => ?_)
    refine lv_if_ne (tgt := 27) hx hb dX10_takes_18 (by decide) (fun c9 => ?_) (fun c9 => ?_)
    · have h := of_f h c9
      refine lv_iload_n hx hb dX10_takes_27 rfl (lv_at hl 3 rfl) ?_
      refine lv_i2l (v := a3.toInt64) hx hb dX10_takes_28 rfl ?_
      refine lv_lconst (v := 1) hx hb dX10_takes_29 (by decide) ?_
      refine lv_aload_n hx hb dX10_takes_30 rfl (lv_at hl 0 rfl) ?_
      refine gf_X10_103 hC hb hP dX10_takes_31 ?_
      refine lv_iload_n hx hb dX10_takes_34 rfl (lv_at hl 1 rfl) ?_
      obtain ⟨g10, h⟩ := of_gd h
      refine x_iald hC hb hP (lm_30 X) g10 dX10_takes_35 ?_
      refine lv_i2l (v := (gA σ7 30 (a1.toNatClampNeg)).toInt64) hx hb dX10_takes_36 rfl ?_
      obtain ⟨r11, σ12, g13, h⟩ := of_bnd h
      refine x_SI (As := [.long a3.toInt64, .long 1, .long ((gA σ7 30 (a1.toNatClampNeg)).toInt64)]) (rest := []) hF hl hP hS (c_X10_isIn hX g13) (cw_X10_154 hC rfl rfl ⟨Nat.le_of_ble_eq_true rfl, Nat.le_of_ble_eq_true rfl⟩) rfl rfl (Nat.le_of_ble_eq_true rfl) dX10_takes_37 ⟨Nat.zero_le _, Nat.zero_le _⟩ (fun H locs hP hS => ?_)
      refine lv_if_eq (tgt := 63) hx hb dX10_takes_40 (by decide) (fun c14 => ?_) (fun c14 => ?_)
      · have h := of_t h c14
        refine lv_aload_n hx hb dX10_takes_63 rfl (lv_at hl 0 rfl) ?_
        refine lv_iconst (v := 2) hx hb dX10_takes_64 (by decide) ?_
        obtain ⟨r15, σ16, g17, h⟩ := of_bnd h
        refine x_VI (As := [.int 2]) (rest := []) hF hl hP hS (c_X10_fail hX g17) (cw_X10_146 hC rfl rfl ⟨Nat.le_of_ble_eq_true rfl, Nat.le_of_ble_eq_true rfl⟩) (lm_0 X) rfl rfl rfl (Nat.le_of_ble_eq_true rfl) dX10_takes_65 ⟨Nat.zero_le _, Nat.zero_le _⟩ (fun H locs hP hS => ?_)
        exact t_X10_takes_68 hX  hF r15 σ16 _ _ _ h hP hS (lv_sub hl [] rfl)
      · have h := of_f h c14
        refine lv_aload_n hx hb dX10_takes_43 rfl (lv_at hl 0 rfl) ?_
        refine gf_X10_107 hC hb hP dX10_takes_44 ?_
        refine lv_sipush (v := 3100) hx hb dX10_takes_47 (by decide) ?_
        refine lv_iload_n hx hb dX10_takes_50 rfl (lv_at hl 1 rfl) ?_
        refine lv_imul hx hb dX10_takes_51 ?_
        refine lv_bipush (v := 100) hx hb dX10_takes_52 (by decide) ?_
        refine lv_iload_n hx hb dX10_takes_54 rfl (lv_at hl 3 rfl) ?_
        refine lv_imul hx hb dX10_takes_55 ?_
        refine lv_iadd hx hb dX10_takes_56 ?_
        refine lv_iload_n hx hb dX10_takes_57 rfl (lv_at hl 2 rfl) ?_
        refine lv_iadd hx hb dX10_takes_58 ?_
        obtain ⟨g18, h⟩ := of_gd h
        refine x_iald hC hb hP (lm_31 X) g18 dX10_takes_59 ?_
        refine lv_goto (tgt := 68) hx hb dX10_takes_60 (by decide) ?_
        exact t_X10_takes_68 hX  hF (gA σ12 31 ((((3100 * a1) + (100 * a3)) + a2).toNatClampNeg)) σ12 _ _ _ h hP hS (lv_sub hl [] rfl)
    · have h := of_t h c9
      exact t_X10_takes_21 hX  hF σ7 _ _ _ h hP hS (lv_sub hl [0] rfl)
