theorem gf_X10_446 {p : Program} {l : Launch} {e : Env} {R : Room} {s : State} {m : MethodId} {args : Array Value} {below : List Frame} {meth : Method} {c : Code} {H : Heap} {locs : List Loc} {cells slots : Nat} {Q : State → Prop} {D : va_G} {Y : CYs} {E : Nat → Nat} {σ : Sta} {cc : ByteArray} {pc : Nat} {ls : Array Slot} {rest : List Value} {X : List Dsc} (hC : Ctx p s m args RX10 D Y) (hb : c.code = cc) (hP : va_P D vwCl (wd Y E σ 0 (LM ++ X)) H) (hdg : decode cc pc = .ok (.getfield 446, 3)) (kk : W p l e R s m args below meth c H locs cells slots Q (F0 m (pc + 3) ls (.long (gL σ 55) :: rest))) : W p l e R s m args below meth c H locs cells slots Q (F0 m pc ls (.ref (E 0) :: rest)) :=
  x_getL hC hb hP inGX10 (lm_0 X) rfl 55 (by decide) rfl (gw_t (tb6 (List.mem_of_getElem? (i := 99) rfl)) rfl) rfl hdg kk
theorem pf_X10_446 {p : Program} {l : Launch} {e : Env} {R : Room} {s : State} {m : MethodId} {args : Array Value} {below : List Frame} {meth : Method} {c : Code} {H : Heap} {locs : List Loc} {cells slots : Nat} {Q : State → Prop} {D : va_G} {Y : CYs} {E : Nat → Nat} {σ : Sta} {cc : ByteArray} {pc : Nat} {ls : Array Slot} {rest : List Value} {X : List Dsc} (hX : Lok (LM ++ X)) {A : Nat → Prop} {H0 : Heap} {x : Int64} (hC : Ctx p s m args RX10 D Y) (hb : c.code = cc) (hP : va_P D vwCl (wd Y E σ 0 (LM ++ X)) H) (hD : ∀ τ, va_D A (wd Y E τ 0 (LM ++ X))) (hS : va_S A H0 H locs) (hdg : decode cc pc = .ok (.putfield 446, 3)) (kk : ∀ (H1 : Heap) (locs1 : List Loc) (τ : Sta), τ = sL σ 55 x → va_P D vwCl (wd Y E τ 0 (LM ++ X)) H1 → va_S A H0 H1 locs1 → W p l e R s m args below meth c H1 locs1 cells slots Q (F0 m (pc + 3) ls rest)) : W p l e R s m args below meth c H locs cells slots Q (F0 m pc ls (.long x :: .ref (E 0) :: rest)) :=
  x_putL hX hC hb hP hD hS inGX10 tyX10 tyX10_ok nmX10 (lm_0 X) rfl 55 (by decide) rfl (gw_t (tb6 (List.mem_of_getElem? (i := 99) rfl)) rfl) rfl rfl rfl hdg kk
theorem cw_X10_453 {R : Room} {p : Program} {s : State} {m : MethodId} {args : Array Value} {D : va_G} {Y : CYs} {rm : Room} (hC : Ctx p s m args RX10 D Y) (hrc : rm.cells = 0) (hrs : rm.slots = 0) (hR : rm.frames + 1 ≤ R.frames ∧ 8 + (9 + 11) + rm.locals ≤ R.locals) : CallW R s args RX10 RX10 453 yX10_playOne cX10_playOne 9 (some .int) (Cond.code yX10_playOne cX10_playOne 9 (some .int) :: gW) rm 0 0 1 :=
  cwV 1 hC.2.1 (gi_V (gw_t (tb8 (List.mem_of_getElem? (i := 119) rfl)) rfl) (gw_t (tb8 (List.mem_of_getElem? (i := 121) rfl)) rfl) (gw_s (q := (⟨"MarkovBenchModel", "playOne", "(I)I"⟩, 57)) (lp8_ (List.mem_of_getElem? (i := 0) rfl))) (gw_t (tb1 (List.mem_of_getElem? (i := 10) rfl)) rfl) (gw_t (tb8 (List.mem_of_getElem? (i := 122) rfl)) rfl)) rfl hrc hrs ⟨rfl, by decide +kernel, by decide +kernel, by decide +kernel⟩ hR
abbrev rm_X10_drop : Room := { frames := 2, cells := 0, slots := 0, locals := 46 }
def f_X10_drop (a1 : Int32) (σ : Sta) : Option (Int32 × Sta) :=
  lt (sI σ 0 0) (fun σ1 =>
  bnd (f_X10_isStrategy a1 σ1) (fun r2 σ3 =>
  if r2 = 0 then
    bnd (f_X10_fail 1 σ3) (fun r18 σ19 =>
    some (r18, σ19))
  else
    lt (sI σ3 47 ((gI σ3 47) - 1)) (fun σ6 =>
    lt ((gI σ6 47) - a1) (fun x7 =>
    if a1 + 1 < 0 ∨ a1 < 0 ∨ x7 < 0 ∨ 22 < ((a1 + 1).toNatClampNeg) + (x7.toNatClampNeg) ∨ 22 < (a1.toNatClampNeg) + (x7.toNatClampNeg) then none else (
    lt (sA σ6 30 (va_cpy (gA σ6 30) (gA σ6 30) ((a1 + 1).toNatClampNeg) (a1.toNatClampNeg) (x7.toNatClampNeg))) (fun σ9 =>
    if a1 + 1 < 0 ∨ a1 < 0 ∨ x7 < 0 ∨ 22 < ((a1 + 1).toNatClampNeg) + (x7.toNatClampNeg) ∨ 22 < (a1.toNatClampNeg) + (x7.toNatClampNeg) then none else (
    lt (sA σ9 34 (va_cpy (gA σ9 34) (gA σ9 34) ((a1 + 1).toNatClampNeg) (a1.toNatClampNeg) (x7.toNatClampNeg))) (fun σ11 =>
    if 3 * (a1 + 1) < 0 ∨ 3 * a1 < 0 ∨ 3 * x7 < 0 ∨ 66 < ((3 * (a1 + 1)).toNatClampNeg) + ((3 * x7).toNatClampNeg) ∨ 66 < ((3 * a1).toNatClampNeg) + ((3 * x7).toNatClampNeg) then none else (
    lt (sJ σ11 33 (va_cpy (gJ σ11 33) (gJ σ11 33) ((3 * (a1 + 1)).toNatClampNeg) ((3 * a1).toNatClampNeg) ((3 * x7).toNatClampNeg))) (fun σ13 =>
    if 3100 * (a1 + 1) < 0 ∨ 3100 * a1 < 0 ∨ 3100 * x7 < 0 ∨ 68200 < ((3100 * (a1 + 1)).toNatClampNeg) + ((3100 * x7).toNatClampNeg) ∨ 68200 < ((3100 * a1).toNatClampNeg) + ((3100 * x7).toNatClampNeg) then none else (
    lt (sA σ13 31 (va_cpy (gA σ13 31) (gA σ13 31) ((3100 * (a1 + 1)).toNatClampNeg) ((3100 * a1).toNatClampNeg) ((3100 * x7).toNatClampNeg))) (fun σ15 =>
    if 3100 * (a1 + 1) < 0 ∨ 3100 * a1 < 0 ∨ 3100 * x7 < 0 ∨ 68200 < ((3100 * (a1 + 1)).toNatClampNeg) + ((3100 * x7).toNatClampNeg) ∨ 68200 < ((3100 * a1).toNatClampNeg) + ((3100 * x7).toNatClampNeg) then none else (
    lt (sJ σ15 32 (va_cpy (gJ σ15 32) (gJ σ15 32) ((3100 * (a1 + 1)).toNatClampNeg) ((3100 * a1).toNatClampNeg) ((3100 * x7).toNatClampNeg))) (fun σ17 =>
    some (gI σ17 47, σ17)))))))))))))))
set_option maxHeartbeats 4000000 in
set_option maxRecDepth 100000 in
theorem c_X10_drop {l : Launch} {D : va_G} {Y : CYs} {E : Nat → Nat} {X : List Dsc} (hX : Lok (LM ++ X)) {a1 : Int32} {σ : Sta} {o : Int32 × Sta} (h : f_X10_drop a1 σ = some o) : MI l yX10_drop (Cond.code yX10_drop cX10_drop 3 (some .int) :: gW) rm_X10_drop (LM ++ X) Y D E [.ref (E 0), .int a1] σ o := by
  intro sz
  refine Met_of (Qc := fun sz => QI (LM ++ X) Y D E sz o) (by decide) (Nat.le_of_ble_eq_true rfl) (fun p e s m args below meth c hF hP ls hl => ?_) sz
  have hS : va_S (AF E (LM ++ X).length s.heap.size) s.heap s.heap [] := va_S.rf
  have hl : lv_has ls 3 [(0, .ref (E 0)), (1, .int a1)] := hl
  show WI p l e rm_X10_drop s m args below meth c (LM ++ X) Y D E o s.heap [] (F0 m 0 ls [])
  unfold f_X10_drop at h
  obtain ⟨hC, hb, hml, hr, hlk, hD, hSW⟩ := id hF
  have hx := hC.1
  refine lv_aload_n hx hb dX10_drop_0 rfl (lv_at hl 0 rfl) ?_
  refine lv_iconst (v := 0) hx hb dX10_drop_1 (by decide) ?_
  refine pf_X10_140 hX hC hb hP hD hS dX10_drop_2 (fun H locs σ1 eσ1 hP hS => ?_)
  have h := of_lt h eσ1
  refine lv_aload_n hx hb dX10_drop_5 rfl (lv_at hl 0 rfl) ?_
  refine lv_iload_n hx hb dX10_drop_6 rfl (lv_at hl 1 rfl) ?_
  obtain ⟨r2, σ3, g4, h⟩ := of_bnd h
  refine x_VI (As := [.int a1]) (rest := []) hF hl hP hS (c_X10_isStrategy hX g4) (cw_X10_432 hC rfl rfl ⟨Nat.le_of_ble_eq_true rfl, Nat.le_of_ble_eq_true rfl⟩) (lm_0 X) rfl rfl rfl (Nat.le_of_ble_eq_true rfl) dX10_drop_7 ⟨Nat.zero_le _, Nat.zero_le _⟩ (fun H locs hP hS => ?_)
  refine lv_if_ne (tgt := 19) hx hb dX10_drop_10 (by decide) (fun c5 => ?_) (fun c5 => ?_)
  · have h := of_f h c5
    refine lv_aload_n hx hb dX10_drop_19 rfl (lv_at hl 0 rfl) ?_
    refine lv_dup hx hb dX10_drop_20 rfl ?_
    refine gf_X10_216 hC hb hP dX10_drop_21 ?_
    refine lv_iconst (v := 1) hx hb dX10_drop_24 (by decide) ?_
    refine lv_isub hx hb dX10_drop_25 ?_
    refine pf_X10_216 hX hC hb hP hD hS dX10_drop_26 (fun H locs σ6 eσ6 hP hS => ?_)
    have h := of_lt h eσ6
    refine lv_aload_n hx hb dX10_drop_29 rfl (lv_at hl 0 rfl) ?_
    refine gf_X10_216 hC hb hP dX10_drop_30 ?_
    refine lv_iload_n hx hb dX10_drop_33 rfl (lv_at hl 1 rfl) ?_
    refine lv_isub hx hb dX10_drop_34 ?_
    refine lv_topi (fun x7 ex7 => ?_)
    have h := of_lt h ex7
    refine lv_istore_n (lv' := [(2, .int x7), (0, .ref (E 0)), (1, .int a1)]) hx hb dX10_drop_35 rfl hl (by decide) rfl (fun ls hl => ?_)
    refine lv_aload_n hx hb dX10_drop_36 rfl (lv_at hl 1 rfl) ?_
    refine gf_X10_103 hC hb hP dX10_drop_37 ?_
    refine lv_iload_n hx hb dX10_drop_40 rfl (lv_at hl 2 rfl) ?_
    refine lv_iconst (v := 1) hx hb dX10_drop_41 (by decide) ?_
    refine lv_iadd hx hb dX10_drop_42 ?_
    refine lv_aload_n hx hb dX10_drop_43 rfl (lv_at hl 1 rfl) ?_
    refine gf_X10_103 hC hb hP dX10_drop_44 ?_
    refine lv_iload_n hx hb dX10_drop_47 rfl (lv_at hl 2 rfl) ?_
    refine lv_iload_n hx hb dX10_drop_48 rfl (lv_at hl 0 rfl) ?_
    obtain ⟨g8, h⟩ := of_gd h
    refine x_copyI hX hF hl hP hS (gw_t (tb7 (List.mem_of_getElem? (i := 186) rfl)) rfl) (gw_t (tb3 (List.mem_of_getElem? (i := 229) rfl)) rfl) (gw_t (tb3 (List.mem_of_getElem? (i := 228) rfl)) rfl) (gw_t (tb1 (List.mem_of_getElem? (i := 23) rfl)) rfl) (lm_30 X) (lm_30 X) g8 (Nat.le_of_ble_eq_true rfl) (Nat.le_of_ble_eq_true rfl) dX10_drop_49 (fun H locs σ9 eσ9 hP hS => ?_)
    have h := of_lt h eσ9
    refine lv_aload_n hx hb dX10_drop_52 rfl (lv_at hl 1 rfl) ?_
    refine gf_X10_116 hC hb hP dX10_drop_53 ?_
    refine lv_iload_n hx hb dX10_drop_56 rfl (lv_at hl 2 rfl) ?_
    refine lv_iconst (v := 1) hx hb dX10_drop_57 (by decide) ?_
    refine lv_iadd hx hb dX10_drop_58 ?_
    refine lv_aload_n hx hb dX10_drop_59 rfl (lv_at hl 1 rfl) ?_
    refine gf_X10_116 hC hb hP dX10_drop_60 ?_
    refine lv_iload_n hx hb dX10_drop_63 rfl (lv_at hl 2 rfl) ?_
    refine lv_iload_n hx hb dX10_drop_64 rfl (lv_at hl 0 rfl) ?_
    obtain ⟨g10, h⟩ := of_gd h
    refine x_copyI hX hF hl hP hS (gw_t (tb7 (List.mem_of_getElem? (i := 186) rfl)) rfl) (gw_t (tb3 (List.mem_of_getElem? (i := 229) rfl)) rfl) (gw_t (tb3 (List.mem_of_getElem? (i := 228) rfl)) rfl) (gw_t (tb1 (List.mem_of_getElem? (i := 23) rfl)) rfl) (lm_34 X) (lm_34 X) g10 (Nat.le_of_ble_eq_true rfl) (Nat.le_of_ble_eq_true rfl) dX10_drop_65 (fun H locs σ11 eσ11 hP hS => ?_)
    have h := of_lt h eσ11
    refine lv_aload_n hx hb dX10_drop_68 rfl (lv_at hl 1 rfl) ?_
    refine gf_X10_113 hC hb hP dX10_drop_69 ?_
    refine lv_iconst (v := 3) hx hb dX10_drop_72 (by decide) ?_
    refine lv_iload_n hx hb dX10_drop_73 rfl (lv_at hl 2 rfl) ?_
    refine lv_iconst (v := 1) hx hb dX10_drop_74 (by decide) ?_
    refine lv_iadd hx hb dX10_drop_75 ?_
    refine lv_imul hx hb dX10_drop_76 ?_
    refine lv_aload_n hx hb dX10_drop_77 rfl (lv_at hl 1 rfl) ?_
    refine gf_X10_113 hC hb hP dX10_drop_78 ?_
    refine lv_iconst (v := 3) hx hb dX10_drop_81 (by decide) ?_
    refine lv_iload_n hx hb dX10_drop_82 rfl (lv_at hl 2 rfl) ?_
    refine lv_imul hx hb dX10_drop_83 ?_
    refine lv_iconst (v := 3) hx hb dX10_drop_84 (by decide) ?_
    refine lv_iload_n hx hb dX10_drop_85 rfl (lv_at hl 0 rfl) ?_
    refine lv_imul hx hb dX10_drop_86 ?_
    obtain ⟨g12, h⟩ := of_gd h
    refine x_copyJ hX hF hl hP hS (gw_t (tb7 (List.mem_of_getElem? (i := 186) rfl)) rfl) (gw_t (tb3 (List.mem_of_getElem? (i := 229) rfl)) rfl) (gw_t (tb3 (List.mem_of_getElem? (i := 228) rfl)) rfl) (gw_t (tb1 (List.mem_of_getElem? (i := 23) rfl)) rfl) (lm_33 X) (lm_33 X) g12 (Nat.le_of_ble_eq_true rfl) (Nat.le_of_ble_eq_true rfl) dX10_drop_87 (fun H locs σ13 eσ13 hP hS => ?_)
    have h := of_lt h eσ13
    refine lv_aload_n hx hb dX10_drop_90 rfl (lv_at hl 1 rfl) ?_
    refine gf_X10_107 hC hb hP dX10_drop_91 ?_
    refine lv_sipush (v := 3100) hx hb dX10_drop_94 (by decide) ?_
    refine lv_iload_n hx hb dX10_drop_97 rfl (lv_at hl 2 rfl) ?_
    refine lv_iconst (v := 1) hx hb dX10_drop_98 (by decide) ?_
    refine lv_iadd hx hb dX10_drop_99 ?_
    refine lv_imul hx hb dX10_drop_100 ?_
    refine lv_aload_n hx hb dX10_drop_101 rfl (lv_at hl 1 rfl) ?_
    refine gf_X10_107 hC hb hP dX10_drop_102 ?_
    refine lv_sipush (v := 3100) hx hb dX10_drop_105 (by decide) ?_
    refine lv_iload_n hx hb dX10_drop_108 rfl (lv_at hl 2 rfl) ?_
    refine lv_imul hx hb dX10_drop_109 ?_
    refine lv_sipush (v := 3100) hx hb dX10_drop_110 (by decide) ?_
    refine lv_iload_n hx hb dX10_drop_113 rfl (lv_at hl 0 rfl) ?_
    refine lv_imul hx hb dX10_drop_114 ?_
    obtain ⟨g14, h⟩ := of_gd h
    refine x_copyI hX hF hl hP hS (gw_t (tb7 (List.mem_of_getElem? (i := 186) rfl)) rfl) (gw_t (tb3 (List.mem_of_getElem? (i := 229) rfl)) rfl) (gw_t (tb3 (List.mem_of_getElem? (i := 228) rfl)) rfl) (gw_t (tb1 (List.mem_of_getElem? (i := 23) rfl)) rfl) (lm_31 X) (lm_31 X) g14 (Nat.le_of_ble_eq_true rfl) (Nat.le_of_ble_eq_true rfl) dX10_drop_115 (fun H locs σ15 eσ15 hP hS => ?_)
    have h := of_lt h eσ15
    refine lv_aload_n hx hb dX10_drop_118 rfl (lv_at hl 1 rfl) ?_
    refine gf_X10_110 hC hb hP dX10_drop_119 ?_
    refine lv_sipush (v := 3100) hx hb dX10_drop_122 (by decide) ?_
    refine lv_iload_n hx hb dX10_drop_125 rfl (lv_at hl 2 rfl) ?_
    refine lv_iconst (v := 1) hx hb dX10_drop_126 (by decide) ?_
    refine lv_iadd hx hb dX10_drop_127 ?_
    refine lv_imul hx hb dX10_drop_128 ?_
    refine lv_aload_n hx hb dX10_drop_129 rfl (lv_at hl 1 rfl) ?_
    refine gf_X10_110 hC hb hP dX10_drop_130 ?_
    refine lv_sipush (v := 3100) hx hb dX10_drop_133 (by decide) ?_
    refine lv_iload_n hx hb dX10_drop_136 rfl (lv_at hl 2 rfl) ?_
    refine lv_imul hx hb dX10_drop_137 ?_
    refine lv_sipush (v := 3100) hx hb dX10_drop_138 (by decide) ?_
    refine lv_iload_n hx hb dX10_drop_141 rfl (lv_at hl 0 rfl) ?_
    refine lv_imul hx hb dX10_drop_142 ?_
    obtain ⟨g16, h⟩ := of_gd h
    refine x_copyJ hX hF hl hP hS (gw_t (tb7 (List.mem_of_getElem? (i := 186) rfl)) rfl) (gw_t (tb3 (List.mem_of_getElem? (i := 229) rfl)) rfl) (gw_t (tb3 (List.mem_of_getElem? (i := 228) rfl)) rfl) (gw_t (tb1 (List.mem_of_getElem? (i := 23) rfl)) rfl) (lm_32 X) (lm_32 X) g16 (Nat.le_of_ble_eq_true rfl) (Nat.le_of_ble_eq_true rfl) dX10_drop_143 (fun H locs σ17 eσ17 hP hS => ?_)
    have h := of_lt h eσ17
    refine lv_aload_n hx hb dX10_drop_146 rfl (lv_at hl 1 rfl) ?_
    refine gf_X10_216 hC hb hP dX10_drop_147 ?_
    exact x_iret hF hP hS h dX10_drop_150
  · have h := of_t h c5
    refine lv_aload_n hx hb dX10_drop_13 rfl (lv_at hl 0 rfl) ?_
    refine lv_iconst (v := 1) hx hb dX10_drop_14 (by decide) ?_
    obtain ⟨r18, σ19, g20, h⟩ := of_bnd h
    refine x_VI (As := [.int 1]) (rest := []) hF hl hP hS (c_X10_fail hX g20) (cw_X10_146 hC rfl rfl ⟨Nat.le_of_ble_eq_true rfl, Nat.le_of_ble_eq_true rfl⟩) (lm_0 X) rfl rfl rfl (Nat.le_of_ble_eq_true rfl) dX10_drop_15 ⟨Nat.zero_le _, Nat.zero_le _⟩ (fun H locs hP hS => ?_)
    exact x_iret hF hP hS h dX10_drop_18

abbrev rm_X10_reach : Room := { frames := 2, cells := 0, slots := 0, locals := 48 }
def f_X10_reach_67 (k38 : Int32 → Int32 → Int32 → Sta → Option (Int32 × Sta)) (v1 : Int32) (v2 : Int32) (v3 : Int32) (s0 : Int64) (s1 : Int32) (σ : Sta) : Option (Int32 × Sta) :=
  if s1 < 0 ∨ 100 ≤ (s1.toNatClampNeg) then none else (
  lt (sJ σ 36 (vp_updL (gJ σ 36) (s1.toNatClampNeg) s0)) (fun σ2 =>
  lt (v3 + 1) (fun x3 =>
  k38 v1 v2 x3 σ2)))
set_option maxHeartbeats 4000000 in
set_option maxRecDepth 100000 in
theorem t_X10_reach_67 {l : Launch} {D : va_G} {Y : CYs} {E : Nat → Nat} {X : List Dsc} (hX : Lok (LM ++ X)) {p : Program} {e : Env} {s : State} {m : MethodId} {args : Array Value} {below : List Frame} {meth : Method} {c : Code} (hF : Fr p s m args meth c RX10 cX10_reach 8 (some .int) D Y E (LM ++ X)) {o : Int32 × Sta} (k38 : Int32 → Int32 → Int32 → Sta → Option (Int32 × Sta)) (hk38 : ∀ (v1 : Int32) (v2 : Int32) (v3 : Int32) (σ : Sta) (H : Heap) (locs : List Loc) (ls : Array Slot), k38 v1 v2 v3 σ = some o → va_P D vwCl (wd Y E σ 0 (LM ++ X)) H → va_S (AF E (LM ++ X).length s.heap.size) s.heap H locs → lv_has ls 8 [(0, .ref (E 0)), (1, .int v1), (2, .int v2), (3, .int v3)] → WI p l e rm_X10_reach s m args below meth c (LM ++ X) Y D E o H locs (F0 m 38 ls [])) : ∀ (v1 : Int32) (v2 : Int32) (v3 : Int32) (s0 : Int64) (s1 : Int32) (σ : Sta) (H : Heap) (locs : List Loc) (ls : Array Slot), f_X10_reach_67 k38 v1 v2 v3 s0 s1 σ = some o → va_P D vwCl (wd Y E σ 0 (LM ++ X)) H → va_S (AF E (LM ++ X).length s.heap.size) s.heap H locs → lv_has ls 8 [(0, .ref (E 0)), (1, .int v1), (2, .int v2), (3, .int v3)] → WI p l e rm_X10_reach s m args below meth c (LM ++ X) Y D E o H locs (F0 m 67 ls [.long s0, .int s1, .ref (E 36)]) := by
  intro v1 v2 v3 s0 s1 σ H locs ls h hP hS hl
  unfold f_X10_reach_67 at h
  obtain ⟨hC, hb, hml, hr, hlk, hD, hSW⟩ := id hF
  have hx := hC.1
  obtain ⟨g1, h⟩ := of_gd h
  refine x_last hX hC hb hP hD hS (lm_36 X) g1 dX10_reach_67 (fun H locs σ2 eσ2 hP hS => ?_)
  have h := of_lt h eσ2
  obtain ⟨x3, ex3⟩ : ∃ y : Int32, y = v3 + 1 := ⟨_, rfl⟩
  have h := of_lt h ex3
  refine lv_iinc (v := x3) (lv' := [(3, .int x3), (0, .ref (E 0)), (1, .int v1), (2, .int v2)]) hx hb dX10_reach_68 hl (k := 3) rfl (by rw [ex3]; rfl) (by decide) rfl (fun ls hl => ?_)
  refine lv_goto (tgt := 38) hx hb dX10_reach_71 (by decide) ?_
  exact hk38 v1 v2 x3 σ2 _ _ _ h hP hS (lv_sub hl [1, 2, 3, 0] rfl)

def f_X10_reach_198 (k76 : Int32 → Int32 → Int32 → Sta → Option (Int32 × Sta)) (k84 : Int32 → Int32 → Int32 → Int32 → Sta → Option (Int32 × Sta)) (k120 : Int32 → Int32 → Int32 → Int32 → Int32 → Sta → Option (Int32 × Sta)) (v1 : Int32) (v2 : Int32) (v3 : Int32) (v4 : Int32) (v5 : Int32) (σ : Sta) : Option (Int32 × Sta) :=
  lt (v5 + 1) (fun x1 =>
  k120 v1 v2 v3 v4 x1 σ)
set_option maxHeartbeats 4000000 in
set_option maxRecDepth 100000 in
theorem t_X10_reach_198 {l : Launch} {D : va_G} {Y : CYs} {E : Nat → Nat} {X : List Dsc} (hX : Lok (LM ++ X)) {p : Program} {e : Env} {s : State} {m : MethodId} {args : Array Value} {below : List Frame} {meth : Method} {c : Code} (hF : Fr p s m args meth c RX10 cX10_reach 8 (some .int) D Y E (LM ++ X)) {o : Int32 × Sta} (k76 : Int32 → Int32 → Int32 → Sta → Option (Int32 × Sta)) (k84 : Int32 → Int32 → Int32 → Int32 → Sta → Option (Int32 × Sta)) (k120 : Int32 → Int32 → Int32 → Int32 → Int32 → Sta → Option (Int32 × Sta)) (hk76 : ∀ (v1 : Int32) (v2 : Int32) (v3 : Int32) (σ : Sta) (H : Heap) (locs : List Loc) (ls : Array Slot), k76 v1 v2 v3 σ = some o → va_P D vwCl (wd Y E σ 0 (LM ++ X)) H → va_S (AF E (LM ++ X).length s.heap.size) s.heap H locs → lv_has ls 8 [(0, .ref (E 0)), (1, .int v1), (2, .int v2), (3, .int v3)] → WI p l e rm_X10_reach s m args below meth c (LM ++ X) Y D E o H locs (F0 m 76 ls [])) (hk84 : ∀ (v1 : Int32) (v2 : Int32) (v3 : Int32) (v4 : Int32) (σ : Sta) (H : Heap) (locs : List Loc) (ls : Array Slot), k84 v1 v2 v3 v4 σ = some o → va_P D vwCl (wd Y E σ 0 (LM ++ X)) H → va_S (AF E (LM ++ X).length s.heap.size) s.heap H locs → lv_has ls 8 [(0, .ref (E 0)), (1, .int v1), (2, .int v2), (3, .int v3), (4, .int v4)] → WI p l e rm_X10_reach s m args below meth c (LM ++ X) Y D E o H locs (F0 m 84 ls [])) (hk120 : ∀ (v1 : Int32) (v2 : Int32) (v3 : Int32) (v4 : Int32) (v5 : Int32) (σ : Sta) (H : Heap) (locs : List Loc) (ls : Array Slot), k120 v1 v2 v3 v4 v5 σ = some o → va_P D vwCl (wd Y E σ 0 (LM ++ X)) H → va_S (AF E (LM ++ X).length s.heap.size) s.heap H locs → lv_has ls 8 [(0, .ref (E 0)), (1, .int v1), (2, .int v2), (3, .int v3), (4, .int v4), (5, .int v5)] → WI p l e rm_X10_reach s m args below meth c (LM ++ X) Y D E o H locs (F0 m 120 ls [])) : ∀ (v1 : Int32) (v2 : Int32) (v3 : Int32) (v4 : Int32) (v5 : Int32) (σ : Sta) (H : Heap) (locs : List Loc) (ls : Array Slot), f_X10_reach_198 k76 k84 k120 v1 v2 v3 v4 v5 σ = some o → va_P D vwCl (wd Y E σ 0 (LM ++ X)) H → va_S (AF E (LM ++ X).length s.heap.size) s.heap H locs → lv_has ls 8 [(0, .ref (E 0)), (1, .int v1), (2, .int v2), (3, .int v3), (4, .int v4), (5, .int v5)] → WI p l e rm_X10_reach s m args below meth c (LM ++ X) Y D E o H locs (F0 m 198 ls []) := by
  intro v1 v2 v3 v4 v5 σ H locs ls h hP hS hl
  unfold f_X10_reach_198 at h
  obtain ⟨hC, hb, hml, hr, hlk, hD, hSW⟩ := id hF
  have hx := hC.1
  obtain ⟨x1, ex1⟩ : ∃ y : Int32, y = v5 + 1 := ⟨_, rfl⟩
  have h := of_lt h ex1
  refine lv_iinc (v := x1) (lv' := [(5, .int x1), (0, .ref (E 0)), (1, .int v1), (2, .int v2), (3, .int v3), (4, .int v4)]) hx hb dX10_reach_198 hl (k := 5) rfl (by rw [ex1]; rfl) (by decide) rfl (fun ls hl => ?_)
  refine lv_goto (tgt := 120) hx hb dX10_reach_201 (by decide) ?_
  exact hk120 v1 v2 v3 v4 x1 σ _ _ _ h hP hS (lv_sub hl [1, 2, 3, 4, 5, 0] rfl)

def f_X10_reach_189 (k76 : Int32 → Int32 → Int32 → Sta → Option (Int32 × Sta)) (k84 : Int32 → Int32 → Int32 → Int32 → Sta → Option (Int32 × Sta)) (k120 : Int32 → Int32 → Int32 → Int32 → Int32 → Sta → Option (Int32 × Sta)) (v1 : Int32) (v2 : Int32) (v3 : Int32) (v4 : Int32) (v5 : Int32) (v6 : Int64) (σ : Sta) : Option (Int32 × Sta) :=
  if v4 < 0 ∨ 100 ≤ (v4.toNatClampNeg) then none else (
  lt (sJ σ 35 (vp_updL (gJ σ 35) (v4.toNatClampNeg) v6)) (fun σ2 =>
  f_X10_reach_198 k76 k84 k120 v1 v2 v3 v4 v5 σ2))
set_option maxHeartbeats 4000000 in
set_option maxRecDepth 100000 in
theorem t_X10_reach_189 {l : Launch} {D : va_G} {Y : CYs} {E : Nat → Nat} {X : List Dsc} (hX : Lok (LM ++ X)) {p : Program} {e : Env} {s : State} {m : MethodId} {args : Array Value} {below : List Frame} {meth : Method} {c : Code} (hF : Fr p s m args meth c RX10 cX10_reach 8 (some .int) D Y E (LM ++ X)) {o : Int32 × Sta} (k76 : Int32 → Int32 → Int32 → Sta → Option (Int32 × Sta)) (k84 : Int32 → Int32 → Int32 → Int32 → Sta → Option (Int32 × Sta)) (k120 : Int32 → Int32 → Int32 → Int32 → Int32 → Sta → Option (Int32 × Sta)) (hk76 : ∀ (v1 : Int32) (v2 : Int32) (v3 : Int32) (σ : Sta) (H : Heap) (locs : List Loc) (ls : Array Slot), k76 v1 v2 v3 σ = some o → va_P D vwCl (wd Y E σ 0 (LM ++ X)) H → va_S (AF E (LM ++ X).length s.heap.size) s.heap H locs → lv_has ls 8 [(0, .ref (E 0)), (1, .int v1), (2, .int v2), (3, .int v3)] → WI p l e rm_X10_reach s m args below meth c (LM ++ X) Y D E o H locs (F0 m 76 ls [])) (hk84 : ∀ (v1 : Int32) (v2 : Int32) (v3 : Int32) (v4 : Int32) (σ : Sta) (H : Heap) (locs : List Loc) (ls : Array Slot), k84 v1 v2 v3 v4 σ = some o → va_P D vwCl (wd Y E σ 0 (LM ++ X)) H → va_S (AF E (LM ++ X).length s.heap.size) s.heap H locs → lv_has ls 8 [(0, .ref (E 0)), (1, .int v1), (2, .int v2), (3, .int v3), (4, .int v4)] → WI p l e rm_X10_reach s m args below meth c (LM ++ X) Y D E o H locs (F0 m 84 ls [])) (hk120 : ∀ (v1 : Int32) (v2 : Int32) (v3 : Int32) (v4 : Int32) (v5 : Int32) (σ : Sta) (H : Heap) (locs : List Loc) (ls : Array Slot), k120 v1 v2 v3 v4 v5 σ = some o → va_P D vwCl (wd Y E σ 0 (LM ++ X)) H → va_S (AF E (LM ++ X).length s.heap.size) s.heap H locs → lv_has ls 8 [(0, .ref (E 0)), (1, .int v1), (2, .int v2), (3, .int v3), (4, .int v4), (5, .int v5)] → WI p l e rm_X10_reach s m args below meth c (LM ++ X) Y D E o H locs (F0 m 120 ls [])) : ∀ (v1 : Int32) (v2 : Int32) (v3 : Int32) (v4 : Int32) (v5 : Int32) (v6 : Int64) (σ : Sta) (H : Heap) (locs : List Loc) (ls : Array Slot), f_X10_reach_189 k76 k84 k120 v1 v2 v3 v4 v5 v6 σ = some o → va_P D vwCl (wd Y E σ 0 (LM ++ X)) H → va_S (AF E (LM ++ X).length s.heap.size) s.heap H locs → lv_has ls 8 [(0, .ref (E 0)), (1, .int v1), (2, .int v2), (3, .int v3), (4, .int v4), (5, .int v5), (6, .long v6)] → WI p l e rm_X10_reach s m args below meth c (LM ++ X) Y D E o H locs (F0 m 189 ls []) := by
  intro v1 v2 v3 v4 v5 v6 σ H locs ls h hP hS hl
  unfold f_X10_reach_189 at h
  obtain ⟨hC, hb, hml, hr, hlk, hD, hSW⟩ := id hF
  have hx := hC.1
  refine lv_aload_n hx hb dX10_reach_189 rfl (lv_at hl 0 rfl) ?_
  refine gf_X10_119 hC hb hP dX10_reach_190 ?_
  refine lv_iload hx hb dX10_reach_193 (lv_at hl 4 rfl) ?_
  refine lv_lload hx hb dX10_reach_195 (lv_at hl 6 rfl) ?_
  obtain ⟨g1, h⟩ := of_gd h
  refine x_last hX hC hb hP hD hS (lm_35 X) g1 dX10_reach_197 (fun H locs σ2 eσ2 hP hS => ?_)
  have h := of_lt h eσ2
  exact t_X10_reach_198 hX  hF k76 k84 k120 hk76 hk84 hk120 v1 v2 v3 v4 v5 σ2 _ _ _ h hP hS (lv_sub hl [0, 1, 2, 3, 4, 5] rfl)

def f_X10_reach_120 (k76 : Int32 → Int32 → Int32 → Sta → Option (Int32 × Sta)) (k84 : Int32 → Int32 → Int32 → Int32 → Sta → Option (Int32 × Sta)) : Nat → Int32 → Int32 → Int32 → Int32 → Int32 → Sta → Option (Int32 × Sta)
  | 0, _, _, _, _, _, _ => none
  | n + 1, v1, v2, v3, v4, v5, σ => if v4 < 0 ∨ 100 ≤ (v4.toNatClampNeg) then none else (
    if gA σ 23 (v4.toNatClampNeg) ≤ v5 then
      lt (v4 + 1) (fun x3 =>
      k84 v1 v2 v3 x3 σ)
    else
      bnd (f_X10_expected ((16 * v4) + v5) 36 100 0 σ) (fun r4 σ5 =>
      if v5 = 0 then
        f_X10_reach_189 k76 k84 (f_X10_reach_120 k76 k84 n) v1 v2 v3 v4 v5 r4 σ5
      else
        if v2 = 0 then
          if v4 < 0 ∨ 100 ≤ (v4.toNatClampNeg) then none else (
          if lg_cmp r4 (gJ σ5 35 (v4.toNatClampNeg)) ≤ 0 then
            f_X10_reach_198 k76 k84 (f_X10_reach_120 k76 k84 n) v1 v2 v3 v4 v5 σ5
          else
            f_X10_reach_189 k76 k84 (f_X10_reach_120 k76 k84 n) v1 v2 v3 v4 v5 r4 σ5)
        else
          if v4 < 0 ∨ 100 ≤ (v4.toNatClampNeg) then none else (
          if 0 ≤ lg_cmp r4 (gJ σ5 35 (v4.toNatClampNeg)) then
            f_X10_reach_198 k76 k84 (f_X10_reach_120 k76 k84 n) v1 v2 v3 v4 v5 σ5
          else
            f_X10_reach_189 k76 k84 (f_X10_reach_120 k76 k84 n) v1 v2 v3 v4 v5 r4 σ5)))
set_option maxHeartbeats 4000000 in
set_option maxRecDepth 100000 in
theorem t_X10_reach_120 {l : Launch} {D : va_G} {Y : CYs} {E : Nat → Nat} {X : List Dsc} (hX : Lok (LM ++ X)) {p : Program} {e : Env} {s : State} {m : MethodId} {args : Array Value} {below : List Frame} {meth : Method} {c : Code} (hF : Fr p s m args meth c RX10 cX10_reach 8 (some .int) D Y E (LM ++ X)) {o : Int32 × Sta} (k76 : Int32 → Int32 → Int32 → Sta → Option (Int32 × Sta)) (k84 : Int32 → Int32 → Int32 → Int32 → Sta → Option (Int32 × Sta)) (hk76 : ∀ (v1 : Int32) (v2 : Int32) (v3 : Int32) (σ : Sta) (H : Heap) (locs : List Loc) (ls : Array Slot), k76 v1 v2 v3 σ = some o → va_P D vwCl (wd Y E σ 0 (LM ++ X)) H → va_S (AF E (LM ++ X).length s.heap.size) s.heap H locs → lv_has ls 8 [(0, .ref (E 0)), (1, .int v1), (2, .int v2), (3, .int v3)] → WI p l e rm_X10_reach s m args below meth c (LM ++ X) Y D E o H locs (F0 m 76 ls [])) (hk84 : ∀ (v1 : Int32) (v2 : Int32) (v3 : Int32) (v4 : Int32) (σ : Sta) (H : Heap) (locs : List Loc) (ls : Array Slot), k84 v1 v2 v3 v4 σ = some o → va_P D vwCl (wd Y E σ 0 (LM ++ X)) H → va_S (AF E (LM ++ X).length s.heap.size) s.heap H locs → lv_has ls 8 [(0, .ref (E 0)), (1, .int v1), (2, .int v2), (3, .int v3), (4, .int v4)] → WI p l e rm_X10_reach s m args below meth c (LM ++ X) Y D E o H locs (F0 m 84 ls [])) : ∀ (n : Nat) (v1 : Int32) (v2 : Int32) (v3 : Int32) (v4 : Int32) (v5 : Int32) (σ : Sta) (H : Heap) (locs : List Loc) (ls : Array Slot), f_X10_reach_120 k76 k84 n v1 v2 v3 v4 v5 σ = some o → va_P D vwCl (wd Y E σ 0 (LM ++ X)) H → va_S (AF E (LM ++ X).length s.heap.size) s.heap H locs → lv_has ls 8 [(0, .ref (E 0)), (1, .int v1), (2, .int v2), (3, .int v3), (4, .int v4), (5, .int v5)] → WI p l e rm_X10_reach s m args below meth c (LM ++ X) Y D E o H locs (F0 m 120 ls []) := by
  intro n
  induction n with
  | zero =>
    intro v1 v2 v3 v4 v5 σ H locs ls h hP hS hl
    exact nomatch (show (none : Option (Int32 × Sta)) = some o from h)
  | succ n ih =>
    intro v1 v2 v3 v4 v5 σ H locs ls h hP hS hl
    rw [f_X10_reach_120] at h
    obtain ⟨hC, hb, hml, hr, hlk, hD, hSW⟩ := id hF
    have hx := hC.1
    refine lv_iload hx hb dX10_reach_120 (lv_at hl 5 rfl) ?_
    refine lv_aload_n hx hb dX10_reach_122 rfl (lv_at hl 0 rfl) ?_
    refine gf_X10_82 hC hb hP dX10_reach_123 ?_
    refine lv_iload hx hb dX10_reach_126 (lv_at hl 4 rfl) ?_
    obtain ⟨g1, h⟩ := of_gd h
    refine x_iald hC hb hP (lm_23 X) g1 dX10_reach_128 ?_
    refine lv_icmp_ge (tgt := 204) hx hb dX10_reach_129 (by decide) (fun c2 => ?_) (fun c2 => ?_)
    · have h := of_t h c2
      obtain ⟨x3, ex3⟩ : ∃ y : Int32, y = v4 + 1 := ⟨_, rfl⟩
      have h := of_lt h ex3
      refine lv_iinc (v := x3) (lv' := [(4, .int x3), (0, .ref (E 0)), (1, .int v1), (2, .int v2), (3, .int v3), (5, .int v5)]) hx hb dX10_reach_204 hl (k := 4) rfl (by rw [ex3]; rfl) (by decide) rfl (fun ls hl => ?_)
      refine lv_goto (tgt := 84) hx hb dX10_reach_207 (by decide) ?_
      exact hk84 v1 v2 v3 x3 σ _ _ _ h hP hS (lv_sub hl [1, 2, 3, 4, 0] rfl)
    · have h := of_f h c2
      refine lv_aload_n hx hb dX10_reach_132 rfl (lv_at hl 0 rfl) ?_
      refine lv_bipush (v := 16) hx hb dX10_reach_133 (by decide) ?_
      refine lv_iload hx hb dX10_reach_135 (lv_at hl 4 rfl) ?_
      refine lv_imul hx hb dX10_reach_137 ?_
      refine lv_iload hx hb dX10_reach_138 (lv_at hl 5 rfl) ?_
      refine lv_iadd hx hb dX10_reach_140 ?_
      refine lv_aload_n hx hb dX10_reach_141 rfl (lv_at hl 0 rfl) ?_
      refine gf_X10_122 hC hb hP dX10_reach_142 ?_
      refine lv_iconst (v := 0) hx hb dX10_reach_145 (by decide) ?_
      obtain ⟨r4, σ5, g6, h⟩ := of_bnd h
      refine x_VL (As := [.int ((16 * v4) + v5), .ref (E 36), .int 0]) (rest := []) hF hl hP hS (c_X10_expected hX (lm_36 X) g6) (cw_X10_410 hC rfl rfl ⟨Nat.le_of_ble_eq_true rfl, Nat.le_of_ble_eq_true rfl⟩) (lm_0 X) rfl rfl rfl (Nat.le_of_ble_eq_true rfl) dX10_reach_146 ⟨Nat.zero_le _, Nat.zero_le _⟩ (fun H locs hP hS => ?_)
      refine lv_lstore (lv' := [(6, .long r4), (0, .ref (E 0)), (1, .int v1), (2, .int v2), (3, .int v3), (4, .int v4), (5, .int v5)]) hx hb dX10_reach_149 hl (by decide) rfl (fun ls hl => ?_)
      refine lv_iload hx hb dX10_reach_151 (lv_at hl 6 rfl) ?_
      refine lv_if_eq (tgt := 189) hx hb dX10_reach_153 (by decide) (fun c7 => ?_) (fun c7 => ?_)
      · have h := of_t h c7
        exact t_X10_reach_189 hX  hF k76 k84 (f_X10_reach_120 k76 k84 n) hk76 hk84 ih v1 v2 v3 v4 v5 r4 σ5 _ _ _ h hP hS (lv_sub hl [1, 2, 3, 4, 5, 6, 0] rfl)
      · have h := of_f h c7
        refine lv_iload_n hx hb dX10_reach_156 rfl (lv_at hl 3 rfl) ?_
        refine lv_if_eq (tgt := 176) hx hb dX10_reach_157 (by decide) (fun c8 => ?_) (fun c8 => ?_)
        · have h := of_t h c8
          refine lv_lload hx hb dX10_reach_176 (lv_at hl 0 rfl) ?_
          refine lv_aload_n hx hb dX10_reach_178 rfl (lv_at hl 1 rfl) ?_
          refine gf_X10_119 hC hb hP dX10_reach_179 ?_
          refine lv_iload hx hb dX10_reach_182 (lv_at hl 5 rfl) ?_
          obtain ⟨g9, h⟩ := of_gd h
          refine x_lald hC hb hP (lm_35 X) g9 dX10_reach_184 ?_
          refine W.lcmp hx hb dX10_reach_185 ?_
          refine lv_if_le (tgt := 198) hx hb dX10_reach_186 (by decide) (fun c10 => ?_) (fun c10 => ?_)
          · have h := of_t h c10
            exact t_X10_reach_198 hX  hF k76 k84 (f_X10_reach_120 k76 k84 n) hk76 hk84 ih v1 v2 v3 v4 v5 σ5 _ _ _ h hP hS (lv_sub hl [1, 2, 3, 4, 5, 6] rfl)
          · have h := of_f h c10
            exact t_X10_reach_189 hX  hF k76 k84 (f_X10_reach_120 k76 k84 n) hk76 hk84 ih v1 v2 v3 v4 v5 r4 σ5 _ _ _ h hP hS (lv_sub hl [1, 2, 3, 4, 5, 6, 0] rfl)
        · have h := of_f h c8
          refine lv_lload hx hb dX10_reach_160 (lv_at hl 0 rfl) ?_
          refine lv_aload_n hx hb dX10_reach_162 rfl (lv_at hl 1 rfl) ?_
          refine gf_X10_119 hC hb hP dX10_reach_163 ?_
          refine lv_iload hx hb dX10_reach_166 (lv_at hl 5 rfl) ?_
          obtain ⟨g11, h⟩ := of_gd h
          refine x_lald hC hb hP (lm_35 X) g11 dX10_reach_168 ?_
          refine W.lcmp hx hb dX10_reach_169 ?_
          refine lv_if_ge (tgt := 198) hx hb dX10_reach_170 (by decide) (fun c12 => ?_) (fun c12 => ?_)
          · have h := of_t h c12
            exact t_X10_reach_198 hX  hF k76 k84 (f_X10_reach_120 k76 k84 n) hk76 hk84 ih v1 v2 v3 v4 v5 σ5 _ _ _ h hP hS (lv_sub hl [1, 2, 3, 4, 5, 6] rfl)
          · have h := of_f h c12
            refine lv_goto (tgt := 189) hx hb dX10_reach_173 (by decide) ?_
            exact t_X10_reach_189 hX  hF k76 k84 (f_X10_reach_120 k76 k84 n) hk76 hk84 ih v1 v2 v3 v4 v5 r4 σ5 _ _ _ h hP hS (lv_sub hl [1, 2, 3, 4, 5, 6, 0] rfl)

def f_X10_reach_116 (k76 : Int32 → Int32 → Int32 → Sta → Option (Int32 × Sta)) (k84 : Int32 → Int32 → Int32 → Int32 → Sta → Option (Int32 × Sta)) (v1 : Int32) (v2 : Int32) (v3 : Int32) (v4 : Int32) (s0 : Int64) (s1 : Int32) (σ : Sta) : Option (Int32 × Sta) :=
  if s1 < 0 ∨ 100 ≤ (s1.toNatClampNeg) then none else (
  lt (sJ σ 35 (vp_updL (gJ σ 35) (s1.toNatClampNeg) s0)) (fun σ2 =>
  f_X10_reach_120 k76 k84 FU v1 v2 v3 v4 0 σ2))
set_option maxHeartbeats 4000000 in
set_option maxRecDepth 100000 in
theorem t_X10_reach_116 {l : Launch} {D : va_G} {Y : CYs} {E : Nat → Nat} {X : List Dsc} (hX : Lok (LM ++ X)) {p : Program} {e : Env} {s : State} {m : MethodId} {args : Array Value} {below : List Frame} {meth : Method} {c : Code} (hF : Fr p s m args meth c RX10 cX10_reach 8 (some .int) D Y E (LM ++ X)) {o : Int32 × Sta} (k76 : Int32 → Int32 → Int32 → Sta → Option (Int32 × Sta)) (k84 : Int32 → Int32 → Int32 → Int32 → Sta → Option (Int32 × Sta)) (hk76 : ∀ (v1 : Int32) (v2 : Int32) (v3 : Int32) (σ : Sta) (H : Heap) (locs : List Loc) (ls : Array Slot), k76 v1 v2 v3 σ = some o → va_P D vwCl (wd Y E σ 0 (LM ++ X)) H → va_S (AF E (LM ++ X).length s.heap.size) s.heap H locs → lv_has ls 8 [(0, .ref (E 0)), (1, .int v1), (2, .int v2), (3, .int v3)] → WI p l e rm_X10_reach s m args below meth c (LM ++ X) Y D E o H locs (F0 m 76 ls [])) (hk84 : ∀ (v1 : Int32) (v2 : Int32) (v3 : Int32) (v4 : Int32) (σ : Sta) (H : Heap) (locs : List Loc) (ls : Array Slot), k84 v1 v2 v3 v4 σ = some o → va_P D vwCl (wd Y E σ 0 (LM ++ X)) H → va_S (AF E (LM ++ X).length s.heap.size) s.heap H locs → lv_has ls 8 [(0, .ref (E 0)), (1, .int v1), (2, .int v2), (3, .int v3), (4, .int v4)] → WI p l e rm_X10_reach s m args below meth c (LM ++ X) Y D E o H locs (F0 m 84 ls [])) : ∀ (v1 : Int32) (v2 : Int32) (v3 : Int32) (v4 : Int32) (s0 : Int64) (s1 : Int32) (σ : Sta) (H : Heap) (locs : List Loc) (ls : Array Slot), f_X10_reach_116 k76 k84 v1 v2 v3 v4 s0 s1 σ = some o → va_P D vwCl (wd Y E σ 0 (LM ++ X)) H → va_S (AF E (LM ++ X).length s.heap.size) s.heap H locs → lv_has ls 8 [(0, .ref (E 0)), (1, .int v1), (2, .int v2), (3, .int v3), (4, .int v4)] → WI p l e rm_X10_reach s m args below meth c (LM ++ X) Y D E o H locs (F0 m 116 ls [.long s0, .int s1, .ref (E 35)]) := by
  intro v1 v2 v3 v4 s0 s1 σ H locs ls h hP hS hl
  unfold f_X10_reach_116 at h
  obtain ⟨hC, hb, hml, hr, hlk, hD, hSW⟩ := id hF
  have hx := hC.1
  obtain ⟨g1, h⟩ := of_gd h
  refine x_last hX hC hb hP hD hS (lm_35 X) g1 dX10_reach_116 (fun H locs σ2 eσ2 hP hS => ?_)
  have h := of_lt h eσ2
  refine lv_iconst (v := 0) hx hb dX10_reach_117 (by decide) ?_
  refine lv_istore (lv' := [(5, .int 0), (0, .ref (E 0)), (1, .int v1), (2, .int v2), (3, .int v3), (4, .int v4)]) hx hb dX10_reach_118 hl (by decide) rfl (fun ls hl => ?_)
  exact t_X10_reach_120 hX  hF k76 k84 hk76 hk84 FU v1 v2 v3 v4 0 σ2 _ _ _ h hP hS (lv_sub hl [1, 2, 3, 4, 5, 0] rfl)

def f_X10_reach_84 (k76 : Int32 → Int32 → Int32 → Sta → Option (Int32 × Sta)) : Nat → Int32 → Int32 → Int32 → Int32 → Sta → Option (Int32 × Sta)
  | 0, _, _, _, _, _ => none
  | n + 1, v1, v2, v3, v4, σ => if gI σ 37 ≤ v4 then
      if (0 : Int32) < 0 ∨ (0 : Int32) < 0 ∨ gI σ 37 < 0 ∨ 100 < ((0 : Int32).toNatClampNeg) + ((gI σ 37).toNatClampNeg) ∨ 100 < ((0 : Int32).toNatClampNeg) + ((gI σ 37).toNatClampNeg) then none else (
      lt (sJ σ 36 (va_cpy (gJ σ 35) (gJ σ 36) ((0 : Int32).toNatClampNeg) ((0 : Int32).toNatClampNeg) ((gI σ 37).toNatClampNeg))) (fun σ3 =>
      lt (v3 + 1) (fun x4 =>
      k76 v1 v2 x4 σ3)))
    else
      if v4 < 0 ∨ 100 ≤ (v4.toNatClampNeg) then none else (
      if gA σ 22 (v4.toNatClampNeg) = 0 then
        f_X10_reach_116 k76 (f_X10_reach_84 k76 n) v1 v2 v3 v4 0 v4 σ
      else
        f_X10_reach_116 k76 (f_X10_reach_84 k76 n) v1 v2 v3 v4 1000000 v4 σ)
set_option maxHeartbeats 4000000 in
set_option maxRecDepth 100000 in
theorem t_X10_reach_84 {l : Launch} {D : va_G} {Y : CYs} {E : Nat → Nat} {X : List Dsc} (hX : Lok (LM ++ X)) {p : Program} {e : Env} {s : State} {m : MethodId} {args : Array Value} {below : List Frame} {meth : Method} {c : Code} (hF : Fr p s m args meth c RX10 cX10_reach 8 (some .int) D Y E (LM ++ X)) {o : Int32 × Sta} (k76 : Int32 → Int32 → Int32 → Sta → Option (Int32 × Sta)) (hk76 : ∀ (v1 : Int32) (v2 : Int32) (v3 : Int32) (σ : Sta) (H : Heap) (locs : List Loc) (ls : Array Slot), k76 v1 v2 v3 σ = some o → va_P D vwCl (wd Y E σ 0 (LM ++ X)) H → va_S (AF E (LM ++ X).length s.heap.size) s.heap H locs → lv_has ls 8 [(0, .ref (E 0)), (1, .int v1), (2, .int v2), (3, .int v3)] → WI p l e rm_X10_reach s m args below meth c (LM ++ X) Y D E o H locs (F0 m 76 ls [])) : ∀ (n : Nat) (v1 : Int32) (v2 : Int32) (v3 : Int32) (v4 : Int32) (σ : Sta) (H : Heap) (locs : List Loc) (ls : Array Slot), f_X10_reach_84 k76 n v1 v2 v3 v4 σ = some o → va_P D vwCl (wd Y E σ 0 (LM ++ X)) H → va_S (AF E (LM ++ X).length s.heap.size) s.heap H locs → lv_has ls 8 [(0, .ref (E 0)), (1, .int v1), (2, .int v2), (3, .int v3), (4, .int v4)] → WI p l e rm_X10_reach s m args below meth c (LM ++ X) Y D E o H locs (F0 m 84 ls []) := by
  intro n
  induction n with
  | zero =>
    intro v1 v2 v3 v4 σ H locs ls h hP hS hl
    exact nomatch (show (none : Option (Int32 × Sta)) = some o from h)
  | succ n ih =>
    intro v1 v2 v3 v4 σ H locs ls h hP hS hl
    rw [f_X10_reach_84] at h
    obtain ⟨hC, hb, hml, hr, hlk, hD, hSW⟩ := id hF
    have hx := hC.1
    refine lv_iload hx hb dX10_reach_84 (lv_at hl 4 rfl) ?_
    refine lv_aload_n hx hb dX10_reach_86 rfl (lv_at hl 0 rfl) ?_
    refine gf_X10_213 hC hb hP dX10_reach_87 ?_
    refine lv_icmp_ge (tgt := 210) hx hb dX10_reach_90 (by decide) (fun c1 => ?_) (fun c1 => ?_)
    · have h := of_t h c1
      refine lv_aload_n hx hb dX10_reach_210 rfl (lv_at hl 0 rfl) ?_
      refine gf_X10_119 hC hb hP dX10_reach_211 ?_
      refine lv_iconst (v := 0) hx hb dX10_reach_214 (by decide) ?_
      refine lv_aload_n hx hb dX10_reach_215 rfl (lv_at hl 0 rfl) ?_
      refine gf_X10_122 hC hb hP dX10_reach_216 ?_
      refine lv_iconst (v := 0) hx hb dX10_reach_219 (by decide) ?_
      refine lv_aload_n hx hb dX10_reach_220 rfl (lv_at hl 0 rfl) ?_
      refine gf_X10_213 hC hb hP dX10_reach_221 ?_
      obtain ⟨g2, h⟩ := of_gd h
      refine x_copyJ hX hF hl hP hS (gw_t (tb7 (List.mem_of_getElem? (i := 186) rfl)) rfl) (gw_t (tb3 (List.mem_of_getElem? (i := 229) rfl)) rfl) (gw_t (tb3 (List.mem_of_getElem? (i := 228) rfl)) rfl) (gw_t (tb1 (List.mem_of_getElem? (i := 23) rfl)) rfl) (lm_35 X) (lm_36 X) g2 (Nat.le_of_ble_eq_true rfl) (Nat.le_of_ble_eq_true rfl) dX10_reach_224 (fun H locs σ3 eσ3 hP hS => ?_)
      have h := of_lt h eσ3
      obtain ⟨x4, ex4⟩ : ∃ y : Int32, y = v3 + 1 := ⟨_, rfl⟩
      have h := of_lt h ex4
      refine lv_iinc (v := x4) (lv' := [(3, .int x4), (0, .ref (E 0)), (1, .int v1), (2, .int v2), (4, .int v4)]) hx hb dX10_reach_227 hl (k := 3) rfl (by rw [ex4]; rfl) (by decide) rfl (fun ls hl => ?_)
      refine lv_goto (tgt := 76) hx hb dX10_reach_230 (by decide) ?_
      exact hk76 v1 v2 x4 σ3 _ _ _ h hP hS (lv_sub hl [1, 2, 3, 0] rfl)
    · have h := of_f h c1
      refine lv_aload_n hx hb dX10_reach_93 rfl (lv_at hl 0 rfl) ?_
      refine gf_X10_119 hC hb hP dX10_reach_94 ?_
      refine lv_iload hx hb dX10_reach_97 (lv_at hl 4 rfl) ?_
      refine lv_aload_n hx hb dX10_reach_99 rfl (lv_at hl 0 rfl) ?_
      refine gf_X10_78 hC hb hP dX10_reach_100 ?_
      refine lv_iload hx hb dX10_reach_103 (lv_at hl 4 rfl) ?_
      obtain ⟨g5, h⟩ := of_gd h
      refine x_zald hC hb hP (lm_22 X) g5 dX10_reach_105 ?_
      refine lv_if_eq (tgt := 115) hx hb dX10_reach_106 (by decide) (fun c6 => ?_) (fun c6 => ?_)
      · have h := of_t h c6
        refine lv_lconst (v := 0) hx hb dX10_reach_115 (by decide) ?_
        exact t_X10_reach_116 hX  hF k76 (f_X10_reach_84 k76 n) hk76 ih v1 v2 v3 v4 0 v4 σ _ _ _ h hP hS (lv_sub hl [0, 1, 2, 3, 4] rfl)
      · have h := of_f h c6
        refine lv_ldc2 (v := 1000000) hx hb hC.2.2.1 (hC.2.1 (Cond.constantLong RX10 417 1000000) (gw_t (tb8 (List.mem_of_getElem? (i := 53) rfl)) rfl)) dX10_reach_109 ?_
        refine lv_goto (tgt := 116) hx hb dX10_reach_112 (by decide) ?_
        exact t_X10_reach_116 hX  hF k76 (f_X10_reach_84 k76 n) hk76 ih v1 v2 v3 v4 1000000 v4 σ _ _ _ h hP hS (lv_sub hl [0, 1, 2, 3, 4] rfl)

def f_X10_reach_76 : Nat → Int32 → Int32 → Int32 → Sta → Option (Int32 × Sta)
  | 0, _, _, _, _ => none
  | n + 1, v1, v2, v3, σ => if v1 < v3 then
      if (0 : Int32) < 0 ∨ 100 ≤ ((0 : Int32).toNatClampNeg) then none else (
      some ((gJ σ 36 ((0 : Int32).toNatClampNeg)).toInt32, σ))
    else
      f_X10_reach_84 (f_X10_reach_76 n) FU v1 v2 v3 0 σ
set_option maxHeartbeats 4000000 in
set_option maxRecDepth 100000 in
theorem t_X10_reach_76 {l : Launch} {D : va_G} {Y : CYs} {E : Nat → Nat} {X : List Dsc} (hX : Lok (LM ++ X)) {p : Program} {e : Env} {s : State} {m : MethodId} {args : Array Value} {below : List Frame} {meth : Method} {c : Code} (hF : Fr p s m args meth c RX10 cX10_reach 8 (some .int) D Y E (LM ++ X)) {o : Int32 × Sta} : ∀ (n : Nat) (v1 : Int32) (v2 : Int32) (v3 : Int32) (σ : Sta) (H : Heap) (locs : List Loc) (ls : Array Slot), f_X10_reach_76 n v1 v2 v3 σ = some o → va_P D vwCl (wd Y E σ 0 (LM ++ X)) H → va_S (AF E (LM ++ X).length s.heap.size) s.heap H locs → lv_has ls 8 [(0, .ref (E 0)), (1, .int v1), (2, .int v2), (3, .int v3)] → WI p l e rm_X10_reach s m args below meth c (LM ++ X) Y D E o H locs (F0 m 76 ls []) := by
  intro n
  induction n with
  | zero =>
    intro v1 v2 v3 σ H locs ls h hP hS hl
    exact nomatch (show (none : Option (Int32 × Sta)) = some o from h)
  | succ n ih =>
    intro v1 v2 v3 σ H locs ls h hP hS hl
    rw [f_X10_reach_76] at h
    obtain ⟨hC, hb, hml, hr, hlk, hD, hSW⟩ := id hF
    have hx := hC.1
    refine lv_iload_n hx hb dX10_reach_76 rfl (lv_at hl 3 rfl) ?_
    refine lv_iload_n hx hb dX10_reach_77 rfl (lv_at hl 1 rfl) ?_
    refine lv_icmp_gt (tgt := 233) hx hb dX10_reach_78 (by decide) (fun c1 => ?_) (fun c1 => ?_)
    · have h := of_t h c1
      refine lv_aload_n hx hb dX10_reach_233 rfl (lv_at hl 0 rfl) ?_
      refine gf_X10_122 hC hb hP dX10_reach_234 ?_
      refine lv_iconst (v := 0) hx hb dX10_reach_237 (by decide) ?_
      obtain ⟨g2, h⟩ := of_gd h
      refine x_lald hC hb hP (lm_36 X) g2 dX10_reach_238 ?_
      refine lv_l2i (v := (gJ σ 36 ((0 : Int32).toNatClampNeg)).toInt32) hx hb dX10_reach_239 rfl ?_
      exact x_iret hF hP hS h dX10_reach_240
    · have h := of_f h c1
      refine lv_iconst (v := 0) hx hb dX10_reach_81 (by decide) ?_
      refine lv_istore (lv' := [(4, .int 0), (0, .ref (E 0)), (1, .int v1), (2, .int v2), (3, .int v3)]) hx hb dX10_reach_82 hl (by decide) rfl (fun ls hl => ?_)
      exact t_X10_reach_84 hX  hF (f_X10_reach_76 n) ih FU v1 v2 v3 0 σ _ _ _ h hP hS (lv_sub hl [1, 2, 3, 4, 0] rfl)

def f_X10_reach_38 : Nat → Int32 → Int32 → Int32 → Sta → Option (Int32 × Sta)
  | 0, _, _, _, _ => none
  | n + 1, v1, v2, v3, σ => if gI σ 37 ≤ v3 then
      f_X10_reach_76 FU v1 v2 1 σ
    else
      if v3 < 0 ∨ 100 ≤ (v3.toNatClampNeg) then none else (
      if gA σ 22 (v3.toNatClampNeg) = 0 then
        f_X10_reach_67 (f_X10_reach_38 n) v1 v2 v3 0 v3 σ
      else
        f_X10_reach_67 (f_X10_reach_38 n) v1 v2 v3 1000000 v3 σ)
set_option maxHeartbeats 4000000 in
set_option maxRecDepth 100000 in
theorem t_X10_reach_38 {l : Launch} {D : va_G} {Y : CYs} {E : Nat → Nat} {X : List Dsc} (hX : Lok (LM ++ X)) {p : Program} {e : Env} {s : State} {m : MethodId} {args : Array Value} {below : List Frame} {meth : Method} {c : Code} (hF : Fr p s m args meth c RX10 cX10_reach 8 (some .int) D Y E (LM ++ X)) {o : Int32 × Sta} : ∀ (n : Nat) (v1 : Int32) (v2 : Int32) (v3 : Int32) (σ : Sta) (H : Heap) (locs : List Loc) (ls : Array Slot), f_X10_reach_38 n v1 v2 v3 σ = some o → va_P D vwCl (wd Y E σ 0 (LM ++ X)) H → va_S (AF E (LM ++ X).length s.heap.size) s.heap H locs → lv_has ls 8 [(0, .ref (E 0)), (1, .int v1), (2, .int v2), (3, .int v3)] → WI p l e rm_X10_reach s m args below meth c (LM ++ X) Y D E o H locs (F0 m 38 ls []) := by
  intro n
  induction n with
  | zero =>
    intro v1 v2 v3 σ H locs ls h hP hS hl
    exact nomatch (show (none : Option (Int32 × Sta)) = some o from h)
  | succ n ih =>
    intro v1 v2 v3 σ H locs ls h hP hS hl
    rw [f_X10_reach_38] at h
    obtain ⟨hC, hb, hml, hr, hlk, hD, hSW⟩ := id hF
    have hx := hC.1
    refine lv_iload_n hx hb dX10_reach_38 rfl (lv_at hl 3 rfl) ?_
    refine lv_aload_n hx hb dX10_reach_39 rfl (lv_at hl 0 rfl) ?_
    refine gf_X10_213 hC hb hP dX10_reach_40 ?_
    refine lv_icmp_ge (tgt := 74) hx hb dX10_reach_43 (by decide) (fun c1 => ?_) (fun c1 => ?_)
    · have h := of_t h c1
      refine lv_iconst (v := 1) hx hb dX10_reach_74 (by decide) ?_
      refine lv_istore_n (lv' := [(3, .int 1), (0, .ref (E 0)), (1, .int v1), (2, .int v2)]) hx hb dX10_reach_75 rfl hl (by decide) rfl (fun ls hl => ?_)
      exact t_X10_reach_76 hX  hF FU v1 v2 1 σ _ _ _ h hP hS (lv_sub hl [1, 2, 3, 0] rfl)
    · have h := of_f h c1
      refine lv_aload_n hx hb dX10_reach_46 rfl (lv_at hl 0 rfl) ?_
      refine gf_X10_122 hC hb hP dX10_reach_47 ?_
      refine lv_iload_n hx hb dX10_reach_50 rfl (lv_at hl 3 rfl) ?_
      refine lv_aload_n hx hb dX10_reach_51 rfl (lv_at hl 0 rfl) ?_
      refine gf_X10_78 hC hb hP dX10_reach_52 ?_
      refine lv_iload_n hx hb dX10_reach_55 rfl (lv_at hl 3 rfl) ?_
      obtain ⟨g2, h⟩ := of_gd h
      refine x_zald hC hb hP (lm_22 X) g2 dX10_reach_56 ?_
      refine lv_if_eq (tgt := 66) hx hb dX10_reach_57 (by decide) (fun c3 => ?_) (fun c3 => ?_)
      · have h := of_t h c3
        refine lv_lconst (v := 0) hx hb dX10_reach_66 (by decide) ?_
        exact t_X10_reach_67 hX  hF (f_X10_reach_38 n) ih v1 v2 v3 0 v3 σ _ _ _ h hP hS (lv_sub hl [0, 1, 2, 3] rfl)
      · have h := of_f h c3
        refine lv_ldc2 (v := 1000000) hx hb hC.2.2.1 (hC.2.1 (Cond.constantLong RX10 417 1000000) (gw_t (tb8 (List.mem_of_getElem? (i := 53) rfl)) rfl)) dX10_reach_60 ?_
        refine lv_goto (tgt := 67) hx hb dX10_reach_63 (by decide) ?_
        exact t_X10_reach_67 hX  hF (f_X10_reach_38 n) ih v1 v2 v3 1000000 v3 σ _ _ _ h hP hS (lv_sub hl [0, 1, 2, 3] rfl)

def f_X10_reach (a1 : Int32) (a2 : Int32) (σ : Sta) : Option (Int32 × Sta) :=
  lt (sI σ 0 0) (fun σ1 =>
  bnd (f_X10_isIn a1.toInt64 0 30 σ1) (fun r2 σ3 =>
  if r2 = 0 then
    bnd (f_X10_fail 1 σ3) (fun r10 σ11 =>
    some (r10, σ11))
  else
    if gI σ3 37 = 0 then
      bnd (f_X10_fail 2 σ3) (fun r7 σ8 =>
      some (r7, σ8))
    else
      f_X10_reach_38 FU a1 a2 0 σ3))
set_option maxHeartbeats 4000000 in
set_option maxRecDepth 100000 in
theorem c_X10_reach {l : Launch} {D : va_G} {Y : CYs} {E : Nat → Nat} {X : List Dsc} (hX : Lok (LM ++ X)) {a1 : Int32} {a2 : Int32} {σ : Sta} {o : Int32 × Sta} (h : f_X10_reach a1 a2 σ = some o) : MI l yX10_reach (Cond.code yX10_reach cX10_reach 8 (some .int) :: gW) rm_X10_reach (LM ++ X) Y D E [.ref (E 0), .int a1, .int a2] σ o := by
  intro sz
  refine Met_of (Qc := fun sz => QI (LM ++ X) Y D E sz o) (by decide) (Nat.le_of_ble_eq_true rfl) (fun p e s m args below meth c hF hP ls hl => ?_) sz
  have hS : va_S (AF E (LM ++ X).length s.heap.size) s.heap s.heap [] := va_S.rf
  have hl : lv_has ls 8 [(0, .ref (E 0)), (1, .int a1), (2, .int a2)] := hl
  show WI p l e rm_X10_reach s m args below meth c (LM ++ X) Y D E o s.heap [] (F0 m 0 ls [])
  unfold f_X10_reach at h
  obtain ⟨hC, hb, hml, hr, hlk, hD, hSW⟩ := id hF
  have hx := hC.1
  refine lv_aload_n hx hb dX10_reach_0 rfl (lv_at hl 0 rfl) ?_
  refine lv_iconst (v := 0) hx hb dX10_reach_1 (by decide) ?_
  refine pf_X10_140 hX hC hb hP hD hS dX10_reach_2 (fun H locs σ1 eσ1 hP hS => ?_)
  have h := of_lt h eσ1
  refine lv_iload_n hx hb dX10_reach_5 rfl (lv_at hl 1 rfl) ?_
  refine lv_i2l (v := a1.toInt64) hx hb dX10_reach_6 rfl ?_
  refine lv_lconst (v := 0) hx hb dX10_reach_7 (by decide) ?_
  refine lv_ldc2 (v := 30) hx hb hC.2.2.1 (hC.2.1 (Cond.constantLong RX10 426 30) (gw_t (tb8 (List.mem_of_getElem? (i := 39) rfl)) rfl)) dX10_reach_8 ?_
  obtain ⟨r2, σ3, g4, h⟩ := of_bnd h
  refine x_SI (As := [.long a1.toInt64, .long 0, .long 30]) (rest := []) hF hl hP hS (c_X10_isIn hX g4) (cw_X10_154 hC rfl rfl ⟨Nat.le_of_ble_eq_true rfl, Nat.le_of_ble_eq_true rfl⟩) rfl rfl (Nat.le_of_ble_eq_true rfl) dX10_reach_11 ⟨Nat.zero_le _, Nat.zero_le _⟩ (fun H locs hP hS => ?_)
  refine lv_if_ne (tgt := 23) hx hb dX10_reach_14 (by decide) (fun c5 => ?_) (fun c5 => ?_)
  · have h := of_f h c5
    refine lv_aload_n hx hb dX10_reach_23 rfl (lv_at hl 0 rfl) ?_
    refine gf_X10_213 hC hb hP dX10_reach_24 ?_
    refine lv_if_ne (tgt := 36) hx hb dX10_reach_27 (by decide) (fun c6 => ?_) (fun c6 => ?_)
    · have h := of_f h c6
      refine lv_iconst (v := 0) hx hb dX10_reach_36 (by decide) ?_
      refine lv_istore_n (lv' := [(3, .int 0), (0, .ref (E 0)), (1, .int a1), (2, .int a2)]) hx hb dX10_reach_37 rfl hl (by decide) rfl (fun ls hl => ?_)
      exact t_X10_reach_38 hX  hF FU a1 a2 0 σ3 _ _ _ h hP hS (lv_sub hl [1, 2, 3, 0] rfl)
    · have h := of_t h c6
      refine lv_aload_n hx hb dX10_reach_30 rfl (lv_at hl 0 rfl) ?_
      refine lv_iconst (v := 2) hx hb dX10_reach_31 (by decide) ?_
      obtain ⟨r7, σ8, g9, h⟩ := of_bnd h
      refine x_VI (As := [.int 2]) (rest := []) hF hl hP hS (c_X10_fail hX g9) (cw_X10_146 hC rfl rfl ⟨Nat.le_of_ble_eq_true rfl, Nat.le_of_ble_eq_true rfl⟩) (lm_0 X) rfl rfl rfl (Nat.le_of_ble_eq_true rfl) dX10_reach_32 ⟨Nat.zero_le _, Nat.zero_le _⟩ (fun H locs hP hS => ?_)
      exact x_iret hF hP hS h dX10_reach_35
  · have h := of_t h c5
    refine lv_aload_n hx hb dX10_reach_17 rfl (lv_at hl 0 rfl) ?_
    refine lv_iconst (v := 1) hx hb dX10_reach_18 (by decide) ?_
    obtain ⟨r10, σ11, g12, h⟩ := of_bnd h
    refine x_VI (As := [.int 1]) (rest := []) hF hl hP hS (c_X10_fail hX g12) (cw_X10_146 hC rfl rfl ⟨Nat.le_of_ble_eq_true rfl, Nat.le_of_ble_eq_true rfl⟩) (lm_0 X) rfl rfl rfl (Nat.le_of_ble_eq_true rfl) dX10_reach_19 ⟨Nat.zero_le _, Nat.zero_le _⟩ (fun H locs hP hS => ?_)
    exact x_iret hF hP hS h dX10_reach_22

abbrev rm_X10_seed : Room := { frames := 0, cells := 0, slots := 0, locals := 0 }
def f_X10_seed (a1 : Int64) (σ : Sta) : Option (Int64 × Sta) :=
  lt (sI σ 0 0) (fun σ1 =>
  lt (gL σ1 55) (fun x2 =>
  lt (sL σ1 55 a1) (fun σ3 =>
  some (x2, σ3))))
set_option maxHeartbeats 4000000 in
set_option maxRecDepth 100000 in
theorem c_X10_seed {l : Launch} {D : va_G} {Y : CYs} {E : Nat → Nat} {X : List Dsc} (hX : Lok (LM ++ X)) {a1 : Int64} {σ : Sta} {o : Int64 × Sta} (h : f_X10_seed a1 σ = some o) : ML l yX10_seed (Cond.code yX10_seed cX10_seed 5 (some .long) :: gW) rm_X10_seed (LM ++ X) Y D E [.ref (E 0), .long a1] σ o := by
  intro sz
  refine Met_of (Qc := fun sz => QL (LM ++ X) Y D E sz o) (by decide) (Nat.le_of_ble_eq_true rfl) (fun p e s m args below meth c hF hP ls hl => ?_) sz
  have hS : va_S (AF E (LM ++ X).length s.heap.size) s.heap s.heap [] := va_S.rf
  have hl : lv_has ls 5 [(0, .ref (E 0)), (1, .long a1)] := hl
  show WL p l e rm_X10_seed s m args below meth c (LM ++ X) Y D E o s.heap [] (F0 m 0 ls [])
  unfold f_X10_seed at h
  obtain ⟨hC, hb, hml, hr, hlk, hD, hSW⟩ := id hF
  have hx := hC.1
  refine lv_aload_n hx hb dX10_seed_0 rfl (lv_at hl 0 rfl) ?_
  refine lv_iconst (v := 0) hx hb dX10_seed_1 (by decide) ?_
  refine pf_X10_140 hX hC hb hP hD hS dX10_seed_2 (fun H locs σ1 eσ1 hP hS => ?_)
  have h := of_lt h eσ1
  refine lv_aload_n hx hb dX10_seed_5 rfl (lv_at hl 0 rfl) ?_
  refine gf_X10_446 hC hb hP dX10_seed_6 ?_
  refine lv_topl (fun x2 ex2 => ?_)
  have h := of_lt h ex2
  refine lv_lstore_n (lv' := [(3, .long x2), (0, .ref (E 0)), (1, .long a1)]) hx hb dX10_seed_9 rfl hl (by decide) rfl (fun ls hl => ?_)
  refine lv_aload_n hx hb dX10_seed_10 rfl (lv_at hl 1 rfl) ?_
  refine lv_lload_n hx hb dX10_seed_11 rfl (lv_at hl 2 rfl) ?_
  refine pf_X10_446 hX hC hb hP hD hS dX10_seed_12 (fun H locs σ3 eσ3 hP hS => ?_)
  have h := of_lt h eσ3
  refine lv_lload_n hx hb dX10_seed_15 rfl (lv_at hl 0 rfl) ?_
  exact x_lret hF hP hS h dX10_seed_16

abbrev rm_X10_playOne : Room := { frames := 1, cells := 0, slots := 0, locals := 22 }
def f_X10_playOne_159 (k29 : Int32 → Int32 → Int32 → Sta → Option (Int32 × Sta)) : Nat → Int32 → Int32 → Int32 → Int64 → Int32 → Int32 → Sta → Option (Int32 × Sta)
  | 0, _, _, _, _, _, _, _ => none
  | n + 1, v1, v3, v4, v5, v7, v8, σ => if 0 < lg_cmp v8.toInt64 v5 then
      if (4 * v4) + v7 < 0 ∨ 6400 ≤ (((4 * v4) + v7).toNatClampNeg) then none else (
      lt (gA σ 26 (((4 * v4) + v7).toNatClampNeg)) (fun x3 =>
      lt (v3 + (-1)) (fun x4 =>
      k29 v1 x3 x4 σ)))
    else
      lt (v7 + 1) (fun x5 =>
      bnd (f_X10_chanceOf v4 x5 σ) (fun r6 σ7 =>
      lt (v8 + r6) (fun x9 =>
      f_X10_playOne_159 k29 n v1 v3 v4 v5 x5 x9 σ7)))
set_option maxHeartbeats 4000000 in
set_option maxRecDepth 100000 in
theorem t_X10_playOne_159 {l : Launch} {D : va_G} {Y : CYs} {E : Nat → Nat} {X : List Dsc} (hX : Lok (LM ++ X)) {p : Program} {e : Env} {s : State} {m : MethodId} {args : Array Value} {below : List Frame} {meth : Method} {c : Code} (hF : Fr p s m args meth c RX10 cX10_playOne 9 (some .int) D Y E (LM ++ X)) {o : Int32 × Sta} (k29 : Int32 → Int32 → Int32 → Sta → Option (Int32 × Sta)) (hk29 : ∀ (v1 : Int32) (v2 : Int32) (v3 : Int32) (σ : Sta) (H : Heap) (locs : List Loc) (ls : Array Slot), k29 v1 v2 v3 σ = some o → va_P D vwCl (wd Y E σ 0 (LM ++ X)) H → va_S (AF E (LM ++ X).length s.heap.size) s.heap H locs → lv_has ls 9 [(0, .ref (E 0)), (1, .int v1), (2, .int v2), (3, .int v3)] → WI p l e rm_X10_playOne s m args below meth c (LM ++ X) Y D E o H locs (F0 m 29 ls [])) : ∀ (n : Nat) (v1 : Int32) (v3 : Int32) (v4 : Int32) (v5 : Int64) (v7 : Int32) (v8 : Int32) (σ : Sta) (H : Heap) (locs : List Loc) (ls : Array Slot), f_X10_playOne_159 k29 n v1 v3 v4 v5 v7 v8 σ = some o → va_P D vwCl (wd Y E σ 0 (LM ++ X)) H → va_S (AF E (LM ++ X).length s.heap.size) s.heap H locs → lv_has ls 9 [(0, .ref (E 0)), (1, .int v1), (3, .int v3), (4, .int v4), (5, .long v5), (7, .int v7), (8, .int v8)] → WI p l e rm_X10_playOne s m args below meth c (LM ++ X) Y D E o H locs (F0 m 159 ls []) := by
  intro n
  induction n with
  | zero =>
    intro v1 v3 v4 v5 v7 v8 σ H locs ls h hP hS hl
    exact nomatch (show (none : Option (Int32 × Sta)) = some o from h)
  | succ n ih =>
    intro v1 v3 v4 v5 v7 v8 σ H locs ls h hP hS hl
    rw [f_X10_playOne_159] at h
    obtain ⟨hC, hb, hml, hr, hlk, hD, hSW⟩ := id hF
    have hx := hC.1
    refine lv_iload hx hb dX10_playOne_159 (lv_at hl 6 rfl) ?_
    refine lv_i2l (v := v8.toInt64) hx hb dX10_playOne_161 rfl ?_
    refine lv_lload hx hb dX10_playOne_162 (lv_at hl 4 rfl) ?_
    refine W.lcmp hx hb dX10_playOne_164 ?_
    refine lv_if_gt (tgt := 187) hx hb dX10_playOne_165 (by decide) (fun c1 => ?_) (fun c1 => ?_)
    · have h := of_t h c1
      refine lv_aload_n hx hb dX10_playOne_187 rfl (lv_at hl 0 rfl) ?_
      refine gf_X10_91 hC hb hP dX10_playOne_188 ?_
      refine lv_iconst (v := 4) hx hb dX10_playOne_191 (by decide) ?_
      refine lv_iload hx hb dX10_playOne_192 (lv_at hl 3 rfl) ?_
      refine lv_imul hx hb dX10_playOne_194 ?_
      refine lv_iload hx hb dX10_playOne_195 (lv_at hl 5 rfl) ?_
      refine lv_iadd hx hb dX10_playOne_197 ?_
      obtain ⟨g2, h⟩ := of_gd h
      refine x_iald hC hb hP (lm_26 X) g2 dX10_playOne_198 ?_
      refine lv_topi (fun x3 ex3 => ?_)
      have h := of_lt h ex3
      refine lv_istore_n (lv' := [(2, .int x3), (0, .ref (E 0)), (1, .int v1), (3, .int v3), (4, .int v4), (5, .long v5), (7, .int v7), (8, .int v8)]) hx hb dX10_playOne_199 rfl hl (by decide) rfl (fun ls hl => ?_)
      obtain ⟨x4, ex4⟩ : ∃ y : Int32, y = v3 + (-1) := ⟨_, rfl⟩
      have h := of_lt h ex4
      refine lv_iinc (v := x4) (lv' := [(3, .int x4), (2, .int x3), (0, .ref (E 0)), (1, .int v1), (4, .int v4), (5, .long v5), (7, .int v7), (8, .int v8)]) hx hb dX10_playOne_200 hl (k := 3) rfl (by rw [ex4]; rfl) (by decide) rfl (fun ls hl => ?_)
      refine lv_goto (tgt := 29) hx hb dX10_playOne_203 (by decide) ?_
      exact hk29 v1 x3 x4 σ _ _ _ h hP hS (lv_sub hl [2, 3, 1, 0] rfl)
    · have h := of_f h c1
      obtain ⟨x5, ex5⟩ : ∃ y : Int32, y = v7 + 1 := ⟨_, rfl⟩
      have h := of_lt h ex5
      refine lv_iinc (v := x5) (lv' := [(7, .int x5), (0, .ref (E 0)), (1, .int v1), (3, .int v3), (4, .int v4), (5, .long v5), (8, .int v8)]) hx hb dX10_playOne_168 hl (k := 5) rfl (by rw [ex5]; rfl) (by decide) rfl (fun ls hl => ?_)
      refine lv_iload hx hb dX10_playOne_171 (lv_at hl 6 rfl) ?_
      refine lv_aload_n hx hb dX10_playOne_173 rfl (lv_at hl 1 rfl) ?_
      refine lv_iload hx hb dX10_playOne_174 (lv_at hl 4 rfl) ?_
      refine lv_iload hx hb dX10_playOne_176 (lv_at hl 0 rfl) ?_
      obtain ⟨r6, σ7, g8, h⟩ := of_bnd h
      refine x_VI (As := [.int v4, .int x5]) (rest := [.int v8]) hF hl hP hS (c_X10_chanceOf hX g8) (cw_X10_405 hC rfl rfl ⟨Nat.le_of_ble_eq_true rfl, Nat.le_of_ble_eq_true rfl⟩) (lm_0 X) rfl rfl rfl (Nat.le_of_ble_eq_true rfl) dX10_playOne_178 ⟨Nat.zero_le _, Nat.zero_le _⟩ (fun H locs hP hS => ?_)
      refine lv_iadd hx hb dX10_playOne_181 ?_
      refine lv_topi (fun x9 ex9 => ?_)
      have h := of_lt h ex9
      refine lv_istore (lv' := [(8, .int x9), (7, .int x5), (0, .ref (E 0)), (1, .int v1), (3, .int v3), (4, .int v4), (5, .long v5)]) hx hb dX10_playOne_182 hl (by decide) rfl (fun ls hl => ?_)
      refine lv_goto (tgt := 159) hx hb dX10_playOne_184 (by decide) ?_
      exact ih v1 v3 v4 v5 x5 x9 σ7 _ _ _ h hP hS (lv_sub hl [2, 3, 4, 5, 6, 1, 0] rfl)

def f_X10_playOne_69 (k29 : Int32 → Int32 → Int32 → Sta → Option (Int32 × Sta)) : Nat → Int32 → Int32 → Int32 → Int32 → Sta → Option (Int32 × Sta)
  | 0, _, _, _, _, _ => none
  | n + 1, v1, v3, v4, v5, σ => if gI σ 15 ≤ v5 then
      if (0 : Int32) < 0 ∨ 4 ≤ ((0 : Int32).toNatClampNeg) then none else (
      if (0 : Int32) < 0 ∨ 4 ≤ ((0 : Int32).toNatClampNeg) then none else (
      lt (sJ σ 37 (vp_updL (gJ σ 37) ((0 : Int32).toNatClampNeg) ((gJ σ 37 ((0 : Int32).toNatClampNeg)) + 1))) (fun σ4 =>
      lt (sL σ4 55 (((gL σ4 55) * 6364136223846793005) + 1442695040888963407)) (fun σ5 =>
      lt ((((gL σ5 55).toUInt64 >>> ((33 : Int32).toInt64.toUInt64 &&& Int64.toUInt64 63)).toInt64) - (((gL σ5 55).toUInt64 >>> ((33 : Int32).toInt64.toUInt64 &&& Int64.toUInt64 63)).toInt64) / 100 * 100) (fun x6 =>
      bnd (f_X10_chanceOf v4 0 σ5) (fun r7 σ8 =>
      f_X10_playOne_159 k29 FU v1 v3 v4 x6 0 r7 σ8))))))
    else
      if 1 + v5 < 0 ∨ 4 ≤ ((1 + v5).toNatClampNeg) then none else (
      if (3 * v4) + v5 < 0 ∨ 4800 ≤ (((3 * v4) + v5).toNatClampNeg) then none else (
      if 1 + v5 < 0 ∨ 4 ≤ ((1 + v5).toNatClampNeg) then none else (
      lt (sJ σ 37 (vp_updL (gJ σ 37) ((1 + v5).toNatClampNeg) ((gJ σ 37 ((1 + v5).toNatClampNeg)) + (gJ σ 25 (((3 * v4) + v5).toNatClampNeg))))) (fun σ13 =>
      lt (v5 + 1) (fun x14 =>
      f_X10_playOne_69 k29 n v1 v3 v4 x14 σ13)))))
set_option maxHeartbeats 4000000 in
set_option maxRecDepth 100000 in
theorem t_X10_playOne_69 {l : Launch} {D : va_G} {Y : CYs} {E : Nat → Nat} {X : List Dsc} (hX : Lok (LM ++ X)) {p : Program} {e : Env} {s : State} {m : MethodId} {args : Array Value} {below : List Frame} {meth : Method} {c : Code} (hF : Fr p s m args meth c RX10 cX10_playOne 9 (some .int) D Y E (LM ++ X)) {o : Int32 × Sta} (k29 : Int32 → Int32 → Int32 → Sta → Option (Int32 × Sta)) (hk29 : ∀ (v1 : Int32) (v2 : Int32) (v3 : Int32) (σ : Sta) (H : Heap) (locs : List Loc) (ls : Array Slot), k29 v1 v2 v3 σ = some o → va_P D vwCl (wd Y E σ 0 (LM ++ X)) H → va_S (AF E (LM ++ X).length s.heap.size) s.heap H locs → lv_has ls 9 [(0, .ref (E 0)), (1, .int v1), (2, .int v2), (3, .int v3)] → WI p l e rm_X10_playOne s m args below meth c (LM ++ X) Y D E o H locs (F0 m 29 ls [])) : ∀ (n : Nat) (v1 : Int32) (v3 : Int32) (v4 : Int32) (v5 : Int32) (σ : Sta) (H : Heap) (locs : List Loc) (ls : Array Slot), f_X10_playOne_69 k29 n v1 v3 v4 v5 σ = some o → va_P D vwCl (wd Y E σ 0 (LM ++ X)) H → va_S (AF E (LM ++ X).length s.heap.size) s.heap H locs → lv_has ls 9 [(0, .ref (E 0)), (1, .int v1), (3, .int v3), (4, .int v4), (5, .int v5)] → WI p l e rm_X10_playOne s m args below meth c (LM ++ X) Y D E o H locs (F0 m 69 ls []) := by
  intro n
  induction n with
  | zero =>
    intro v1 v3 v4 v5 σ H locs ls h hP hS hl
    exact nomatch (show (none : Option (Int32 × Sta)) = some o from h)
  | succ n ih =>
    intro v1 v3 v4 v5 σ H locs ls h hP hS hl
    rw [f_X10_playOne_69] at h
    obtain ⟨hC, hb, hml, hr, hlk, hD, hSW⟩ := id hF
    have hx := hC.1
    refine lv_iload hx hb dX10_playOne_69 (lv_at hl 4 rfl) ?_
    refine lv_aload_n hx hb dX10_playOne_71 rfl (lv_at hl 0 rfl) ?_
    refine gf_X10_201 hC hb hP dX10_playOne_72 ?_
    refine lv_icmp_ge (tgt := 108) hx hb dX10_playOne_75 (by decide) (fun c1 => ?_) (fun c1 => ?_)
    · have h := of_t h c1
      refine lv_aload_n hx hb dX10_playOne_108 rfl (lv_at hl 0 rfl) ?_
      refine gf_X10_125 hC hb hP dX10_playOne_109 ?_
      refine lv_iconst (v := 0) hx hb dX10_playOne_112 (by decide) ?_
      refine lv_dup2_11 hx hb dX10_playOne_113 rfl rfl ?_
      obtain ⟨g2, h⟩ := of_gd h
      refine x_lald hC hb hP (lm_37 X) g2 dX10_playOne_114 ?_
      refine lv_lconst (v := 1) hx hb dX10_playOne_115 (by decide) ?_
      refine lv_ladd hx hb dX10_playOne_116 ?_
      obtain ⟨g3, h⟩ := of_gd h
      refine x_last hX hC hb hP hD hS (lm_37 X) g3 dX10_playOne_117 (fun H locs σ4 eσ4 hP hS => ?_)
      have h := of_lt h eσ4
      refine lv_aload_n hx hb dX10_playOne_118 rfl (lv_at hl 0 rfl) ?_
      refine lv_aload_n hx hb dX10_playOne_119 rfl (lv_at hl 0 rfl) ?_
      refine gf_X10_446 hC hb hP dX10_playOne_120 ?_
      refine lv_ldc2 (v := 6364136223846793005) hx hb hC.2.2.1 (hC.2.1 (Cond.constantLong RX10 449 6364136223846793005) (gw_t (tb8 (List.mem_of_getElem? (i := 123) rfl)) rfl)) dX10_playOne_123 ?_
      refine lv_lmul hx hb dX10_playOne_126 ?_
      refine lv_ldc2 (v := 1442695040888963407) hx hb hC.2.2.1 (hC.2.1 (Cond.constantLong RX10 451 1442695040888963407) (gw_t (tb8 (List.mem_of_getElem? (i := 124) rfl)) rfl)) dX10_playOne_127 ?_
      refine lv_ladd hx hb dX10_playOne_130 ?_
      refine pf_X10_446 hX hC hb hP hD hS dX10_playOne_131 (fun H locs σ5 eσ5 hP hS => ?_)
      have h := of_lt h eσ5
      refine lv_aload_n hx hb dX10_playOne_134 rfl (lv_at hl 0 rfl) ?_
      refine gf_X10_446 hC hb hP dX10_playOne_135 ?_
      refine lv_bipush (v := 33) hx hb dX10_playOne_138 (by decide) ?_
      refine lv_lushr (v := ((gL σ5 55).toUInt64 >>> ((33 : Int32).toInt64.toUInt64 &&& Int64.toUInt64 63)).toInt64) hx hb dX10_playOne_140 rfl ?_
      refine lv_ldc2 (v := 100) hx hb hC.2.2.1 (hC.2.1 (Cond.constantLong RX10 328 100) (gw_t (tb7 (List.mem_of_getElem? (i := 177) rfl)) rfl)) dX10_playOne_141 ?_
      refine lv_lrem hx hb dX10_playOne_144 (by decide) ?_
      refine lv_topl (fun x6 ex6 => ?_)
      have h := of_lt h ex6
      refine lv_lstore (lv' := [(5, .long x6), (0, .ref (E 0)), (1, .int v1), (3, .int v3), (4, .int v4)]) hx hb dX10_playOne_145 hl (by decide) rfl (fun ls hl => ?_)
      refine lv_iconst (v := 0) hx hb dX10_playOne_147 (by decide) ?_
      refine lv_istore (lv' := [(7, .int 0), (5, .long x6), (0, .ref (E 0)), (1, .int v1), (3, .int v3), (4, .int v4)]) hx hb dX10_playOne_148 hl (by decide) rfl (fun ls hl => ?_)
      refine lv_aload_n hx hb dX10_playOne_150 rfl (lv_at hl 2 rfl) ?_
      refine lv_iload hx hb dX10_playOne_151 (lv_at hl 5 rfl) ?_
      refine lv_iconst (v := 0) hx hb dX10_playOne_153 (by decide) ?_
      obtain ⟨r7, σ8, g9, h⟩ := of_bnd h
      refine x_VI (As := [.int v4, .int 0]) (rest := []) hF hl hP hS (c_X10_chanceOf hX g9) (cw_X10_405 hC rfl rfl ⟨Nat.le_of_ble_eq_true rfl, Nat.le_of_ble_eq_true rfl⟩) (lm_0 X) rfl rfl rfl (Nat.le_of_ble_eq_true rfl) dX10_playOne_154 ⟨Nat.zero_le _, Nat.zero_le _⟩ (fun H locs hP hS => ?_)
      refine lv_istore (lv' := [(8, .int r7), (7, .int 0), (5, .long x6), (0, .ref (E 0)), (1, .int v1), (3, .int v3), (4, .int v4)]) hx hb dX10_playOne_157 hl (by decide) rfl (fun ls hl => ?_)
      exact t_X10_playOne_159 hX  hF k29 hk29 FU v1 v3 v4 x6 0 r7 σ8 _ _ _ h hP hS (lv_sub hl [3, 4, 5, 6, 2, 1, 0] rfl)
    · have h := of_f h c1
      refine lv_aload_n hx hb dX10_playOne_78 rfl (lv_at hl 0 rfl) ?_
      refine gf_X10_125 hC hb hP dX10_playOne_79 ?_
      refine lv_iconst (v := 1) hx hb dX10_playOne_82 (by decide) ?_
      refine lv_iload hx hb dX10_playOne_83 (lv_at hl 4 rfl) ?_
      refine lv_iadd hx hb dX10_playOne_85 ?_
      refine lv_dup2_11 hx hb dX10_playOne_86 rfl rfl ?_
      obtain ⟨g10, h⟩ := of_gd h
      refine x_lald hC hb hP (lm_37 X) g10 dX10_playOne_87 ?_
      refine lv_aload_n hx hb dX10_playOne_88 rfl (lv_at hl 0 rfl) ?_
      refine gf_X10_88 hC hb hP dX10_playOne_89 ?_
      refine lv_iconst (v := 3) hx hb dX10_playOne_92 (by decide) ?_
      refine lv_iload hx hb dX10_playOne_93 (lv_at hl 3 rfl) ?_
      refine lv_imul hx hb dX10_playOne_95 ?_
      refine lv_iload hx hb dX10_playOne_96 (lv_at hl 4 rfl) ?_
      refine lv_iadd hx hb dX10_playOne_98 ?_
      obtain ⟨g11, h⟩ := of_gd h
      refine x_lald hC hb hP (lm_25 X) g11 dX10_playOne_99 ?_
      refine lv_ladd hx hb dX10_playOne_100 ?_
      obtain ⟨g12, h⟩ := of_gd h
      refine x_last hX hC hb hP hD hS (lm_37 X) g12 dX10_playOne_101 (fun H locs σ13 eσ13 hP hS => ?_)
      have h := of_lt h eσ13
      obtain ⟨x14, ex14⟩ : ∃ y : Int32, y = v5 + 1 := ⟨_, rfl⟩
      have h := of_lt h ex14
      refine lv_iinc (v := x14) (lv' := [(5, .int x14), (0, .ref (E 0)), (1, .int v1), (3, .int v3), (4, .int v4)]) hx hb dX10_playOne_102 hl (k := 4) rfl (by rw [ex14]; rfl) (by decide) rfl (fun ls hl => ?_)
      refine lv_goto (tgt := 69) hx hb dX10_playOne_105 (by decide) ?_
      exact ih v1 v3 v4 x14 σ13 _ _ _ h hP hS (lv_sub hl [1, 2, 3, 4, 0] rfl)

def f_X10_playOne_206 (v2 : Int32) (σ : Sta) : Option (Int32 × Sta) :=
  some (v2, σ)
set_option maxHeartbeats 4000000 in
set_option maxRecDepth 100000 in
theorem t_X10_playOne_206 {l : Launch} {D : va_G} {Y : CYs} {E : Nat → Nat} {X : List Dsc} (hX : Lok (LM ++ X)) {p : Program} {e : Env} {s : State} {m : MethodId} {args : Array Value} {below : List Frame} {meth : Method} {c : Code} (hF : Fr p s m args meth c RX10 cX10_playOne 9 (some .int) D Y E (LM ++ X)) {o : Int32 × Sta} : ∀ (v2 : Int32) (σ : Sta) (H : Heap) (locs : List Loc) (ls : Array Slot), f_X10_playOne_206 v2 σ = some o → va_P D vwCl (wd Y E σ 0 (LM ++ X)) H → va_S (AF E (LM ++ X).length s.heap.size) s.heap H locs → lv_has ls 9 [(2, .int v2)] → WI p l e rm_X10_playOne s m args below meth c (LM ++ X) Y D E o H locs (F0 m 206 ls []) := by
  intro v2 σ H locs ls h hP hS hl
  unfold f_X10_playOne_206 at h
  obtain ⟨hC, hb, hml, hr, hlk, hD, hSW⟩ := id hF
  have hx := hC.1
  refine lv_iload_n hx hb dX10_playOne_206 rfl (lv_at hl 0 rfl) ?_
  exact x_iret hF hP hS h dX10_playOne_207

def f_X10_playOne_29 : Nat → Int32 → Int32 → Int32 → Sta → Option (Int32 × Sta)
  | 0, _, _, _, _ => none
  | n + 1, v1, v2, v3, σ => if v3 ≤ 0 then
      f_X10_playOne_206 v2 σ
    else
      if v2 < 0 ∨ 100 ≤ (v2.toNatClampNeg) then none else (
      if gA σ 23 (v2.toNatClampNeg) ≤ 0 then
        f_X10_playOne_206 v2 σ
      else
        if ((3100 * v1) + (100 * v3)) + v2 < 0 ∨ 68200 ≤ ((((3100 * v1) + (100 * v3)) + v2).toNatClampNeg) then none else (
        lt ((16 * v2) + (gA σ 31 ((((3100 * v1) + (100 * v3)) + v2).toNatClampNeg))) (fun x5 =>
        f_X10_playOne_69 (f_X10_playOne_29 n) FU v1 v3 x5 0 σ)))
set_option maxHeartbeats 4000000 in
set_option maxRecDepth 100000 in
theorem t_X10_playOne_29 {l : Launch} {D : va_G} {Y : CYs} {E : Nat → Nat} {X : List Dsc} (hX : Lok (LM ++ X)) {p : Program} {e : Env} {s : State} {m : MethodId} {args : Array Value} {below : List Frame} {meth : Method} {c : Code} (hF : Fr p s m args meth c RX10 cX10_playOne 9 (some .int) D Y E (LM ++ X)) {o : Int32 × Sta} : ∀ (n : Nat) (v1 : Int32) (v2 : Int32) (v3 : Int32) (σ : Sta) (H : Heap) (locs : List Loc) (ls : Array Slot), f_X10_playOne_29 n v1 v2 v3 σ = some o → va_P D vwCl (wd Y E σ 0 (LM ++ X)) H → va_S (AF E (LM ++ X).length s.heap.size) s.heap H locs → lv_has ls 9 [(0, .ref (E 0)), (1, .int v1), (2, .int v2), (3, .int v3)] → WI p l e rm_X10_playOne s m args below meth c (LM ++ X) Y D E o H locs (F0 m 29 ls []) := by
  intro n
  induction n with
  | zero =>
    intro v1 v2 v3 σ H locs ls h hP hS hl
    exact nomatch (show (none : Option (Int32 × Sta)) = some o from h)
  | succ n ih =>
    intro v1 v2 v3 σ H locs ls h hP hS hl
    rw [f_X10_playOne_29] at h
    obtain ⟨hC, hb, hml, hr, hlk, hD, hSW⟩ := id hF
    have hx := hC.1
    refine lv_iload_n hx hb dX10_playOne_29 rfl (lv_at hl 3 rfl) ?_
    refine lv_if_le (tgt := 206) hx hb dX10_playOne_30 (by decide) (fun c1 => ?_) (fun c1 => ?_)
    · have h := of_t h c1
      exact t_X10_playOne_206 hX  hF v2 σ _ _ _ h hP hS (lv_sub hl [2] rfl)
    · have h := of_f h c1
      refine lv_aload_n hx hb dX10_playOne_33 rfl (lv_at hl 0 rfl) ?_
      refine gf_X10_82 hC hb hP dX10_playOne_34 ?_
      refine lv_iload_n hx hb dX10_playOne_37 rfl (lv_at hl 2 rfl) ?_
      obtain ⟨g2, h⟩ := of_gd h
      refine x_iald hC hb hP (lm_23 X) g2 dX10_playOne_38 ?_
      refine lv_if_le (tgt := 206) hx hb dX10_playOne_39 (by decide) (fun c3 => ?_) (fun c3 => ?_)
      · have h := of_t h c3
        exact t_X10_playOne_206 hX  hF v2 σ _ _ _ h hP hS (lv_sub hl [2] rfl)
      · have h := of_f h c3
        refine lv_bipush (v := 16) hx hb dX10_playOne_42 (by decide) ?_
        refine lv_iload_n hx hb dX10_playOne_44 rfl (lv_at hl 2 rfl) ?_
        refine lv_imul hx hb dX10_playOne_45 ?_
        refine lv_aload_n hx hb dX10_playOne_46 rfl (lv_at hl 0 rfl) ?_
        refine gf_X10_107 hC hb hP dX10_playOne_47 ?_
        refine lv_sipush (v := 3100) hx hb dX10_playOne_50 (by decide) ?_
        refine lv_iload_n hx hb dX10_playOne_53 rfl (lv_at hl 1 rfl) ?_
        refine lv_imul hx hb dX10_playOne_54 ?_
        refine lv_bipush (v := 100) hx hb dX10_playOne_55 (by decide) ?_
        refine lv_iload_n hx hb dX10_playOne_57 rfl (lv_at hl 3 rfl) ?_
        refine lv_imul hx hb dX10_playOne_58 ?_
        refine lv_iadd hx hb dX10_playOne_59 ?_
        refine lv_iload_n hx hb dX10_playOne_60 rfl (lv_at hl 2 rfl) ?_
        refine lv_iadd hx hb dX10_playOne_61 ?_
        obtain ⟨g4, h⟩ := of_gd h
        refine x_iald hC hb hP (lm_31 X) g4 dX10_playOne_62 ?_
        refine lv_iadd hx hb dX10_playOne_63 ?_
        refine lv_topi (fun x5 ex5 => ?_)
        have h := of_lt h ex5
        refine lv_istore (lv' := [(4, .int x5), (0, .ref (E 0)), (1, .int v1), (2, .int v2), (3, .int v3)]) hx hb dX10_playOne_64 hl (by decide) rfl (fun ls hl => ?_)
        refine lv_iconst (v := 0) hx hb dX10_playOne_66 (by decide) ?_
        refine lv_istore (lv' := [(5, .int 0), (4, .int x5), (0, .ref (E 0)), (1, .int v1), (2, .int v2), (3, .int v3)]) hx hb dX10_playOne_67 hl (by decide) rfl (fun ls hl => ?_)
        exact t_X10_playOne_69 hX  hF (f_X10_playOne_29 n) ih FU v1 v3 x5 0 σ _ _ _ h hP hS (lv_sub hl [2, 3, 5, 1, 0] rfl)

def f_X10_playOne_2 : Nat → Int32 → Int32 → Sta → Option (Int32 × Sta)
  | 0, _, _, _ => none
  | n + 1, v1, v2, σ => if 3 < v2 then
      if v1 < 0 ∨ 22 ≤ (v1.toNatClampNeg) then none else (
      lt (gA σ 30 (v1.toNatClampNeg)) (fun x3 =>
      f_X10_playOne_29 FU v1 0 x3 σ))
    else
      if v2 < 0 ∨ 4 ≤ (v2.toNatClampNeg) then none else (
      lt (sJ σ 37 (vp_updL (gJ σ 37) (v2.toNatClampNeg) 0)) (fun σ5 =>
      lt (v2 + 1) (fun x6 =>
      f_X10_playOne_2 n v1 x6 σ5)))
set_option maxHeartbeats 4000000 in
set_option maxRecDepth 100000 in
theorem t_X10_playOne_2 {l : Launch} {D : va_G} {Y : CYs} {E : Nat → Nat} {X : List Dsc} (hX : Lok (LM ++ X)) {p : Program} {e : Env} {s : State} {m : MethodId} {args : Array Value} {below : List Frame} {meth : Method} {c : Code} (hF : Fr p s m args meth c RX10 cX10_playOne 9 (some .int) D Y E (LM ++ X)) {o : Int32 × Sta} : ∀ (n : Nat) (v1 : Int32) (v2 : Int32) (σ : Sta) (H : Heap) (locs : List Loc) (ls : Array Slot), f_X10_playOne_2 n v1 v2 σ = some o → va_P D vwCl (wd Y E σ 0 (LM ++ X)) H → va_S (AF E (LM ++ X).length s.heap.size) s.heap H locs → lv_has ls 9 [(0, .ref (E 0)), (1, .int v1), (2, .int v2)] → WI p l e rm_X10_playOne s m args below meth c (LM ++ X) Y D E o H locs (F0 m 2 ls []) := by
  intro n
  induction n with
  | zero =>
    intro v1 v2 σ H locs ls h hP hS hl
    exact nomatch (show (none : Option (Int32 × Sta)) = some o from h)
  | succ n ih =>
    intro v1 v2 σ H locs ls h hP hS hl
    rw [f_X10_playOne_2] at h
    obtain ⟨hC, hb, hml, hr, hlk, hD, hSW⟩ := id hF
    have hx := hC.1
    refine lv_iload_n hx hb dX10_playOne_2 rfl (lv_at hl 2 rfl) ?_
    refine lv_iconst (v := 3) hx hb dX10_playOne_3 (by decide) ?_
    refine lv_icmp_gt (tgt := 20) hx hb dX10_playOne_4 (by decide) (fun c1 => ?_) (fun c1 => ?_)
    · have h := of_t h c1
      refine lv_iconst (v := 0) hx hb dX10_playOne_20 (by decide) ?_
      refine lv_istore_n (lv' := [(2, .int 0), (0, .ref (E 0)), (1, .int v1)]) hx hb dX10_playOne_21 rfl hl (by decide) rfl (fun ls hl => ?_)
      refine lv_aload_n hx hb dX10_playOne_22 rfl (lv_at hl 1 rfl) ?_
      refine gf_X10_103 hC hb hP dX10_playOne_23 ?_
      refine lv_iload_n hx hb dX10_playOne_26 rfl (lv_at hl 2 rfl) ?_
      obtain ⟨g2, h⟩ := of_gd h
      refine x_iald hC hb hP (lm_30 X) g2 dX10_playOne_27 ?_
      refine lv_topi (fun x3 ex3 => ?_)
      have h := of_lt h ex3
      refine lv_istore_n (lv' := [(3, .int x3), (2, .int 0), (0, .ref (E 0)), (1, .int v1)]) hx hb dX10_playOne_28 rfl hl (by decide) rfl (fun ls hl => ?_)
      exact t_X10_playOne_29 hX  hF FU v1 0 x3 σ _ _ _ h hP hS (lv_sub hl [2, 3, 1, 0] rfl)
    · have h := of_f h c1
      refine lv_aload_n hx hb dX10_playOne_7 rfl (lv_at hl 0 rfl) ?_
      refine gf_X10_125 hC hb hP dX10_playOne_8 ?_
      refine lv_iload_n hx hb dX10_playOne_11 rfl (lv_at hl 2 rfl) ?_
      refine lv_lconst (v := 0) hx hb dX10_playOne_12 (by decide) ?_
      obtain ⟨g4, h⟩ := of_gd h
      refine x_last hX hC hb hP hD hS (lm_37 X) g4 dX10_playOne_13 (fun H locs σ5 eσ5 hP hS => ?_)
      have h := of_lt h eσ5
      obtain ⟨x6, ex6⟩ : ∃ y : Int32, y = v2 + 1 := ⟨_, rfl⟩
      have h := of_lt h ex6
      refine lv_iinc (v := x6) (lv' := [(2, .int x6), (0, .ref (E 0)), (1, .int v1)]) hx hb dX10_playOne_14 hl (k := 2) rfl (by rw [ex6]; rfl) (by decide) rfl (fun ls hl => ?_)
      refine lv_goto (tgt := 2) hx hb dX10_playOne_17 (by decide) ?_
      exact ih v1 x6 σ5 _ _ _ h hP hS (lv_sub hl [1, 2, 0] rfl)

def f_X10_playOne (a1 : Int32) (σ : Sta) : Option (Int32 × Sta) :=
  f_X10_playOne_2 FU a1 0 σ
set_option maxHeartbeats 4000000 in
set_option maxRecDepth 100000 in
theorem c_X10_playOne {l : Launch} {D : va_G} {Y : CYs} {E : Nat → Nat} {X : List Dsc} (hX : Lok (LM ++ X)) {a1 : Int32} {σ : Sta} {o : Int32 × Sta} (h : f_X10_playOne a1 σ = some o) : MI l yX10_playOne (Cond.code yX10_playOne cX10_playOne 9 (some .int) :: gW) rm_X10_playOne (LM ++ X) Y D E [.ref (E 0), .int a1] σ o := by
  intro sz
  refine Met_of (Qc := fun sz => QI (LM ++ X) Y D E sz o) (by decide) (Nat.le_of_ble_eq_true rfl) (fun p e s m args below meth c hF hP ls hl => ?_) sz
  have hS : va_S (AF E (LM ++ X).length s.heap.size) s.heap s.heap [] := va_S.rf
  have hl : lv_has ls 9 [(0, .ref (E 0)), (1, .int a1)] := hl
  show WI p l e rm_X10_playOne s m args below meth c (LM ++ X) Y D E o s.heap [] (F0 m 0 ls [])
  unfold f_X10_playOne at h
  obtain ⟨hC, hb, hml, hr, hlk, hD, hSW⟩ := id hF
  have hx := hC.1
  refine lv_iconst (v := 0) hx hb dX10_playOne_0 (by decide) ?_
  refine lv_istore_n (lv' := [(2, .int 0), (0, .ref (E 0)), (1, .int a1)]) hx hb dX10_playOne_1 rfl hl (by decide) rfl (fun ls hl => ?_)
  exact t_X10_playOne_2 hX  hF FU a1 0 σ _ _ _ h hP hS (lv_sub hl [1, 2, 0] rfl)

abbrev rm_X10_play : Room := { frames := 2, cells := 0, slots := 0, locals := 50 }
def f_X10_play_26 (s0 : Int32) (σ : Sta) : Option (Int32 × Sta) :=
  some (s0, σ)
set_option maxHeartbeats 4000000 in
set_option maxRecDepth 100000 in
theorem t_X10_play_26 {l : Launch} {D : va_G} {Y : CYs} {E : Nat → Nat} {X : List Dsc} (hX : Lok (LM ++ X)) {p : Program} {e : Env} {s : State} {m : MethodId} {args : Array Value} {below : List Frame} {meth : Method} {c : Code} (hF : Fr p s m args meth c RX10 cX10_play 2 (some .int) D Y E (LM ++ X)) {o : Int32 × Sta} : ∀ (s0 : Int32) (σ : Sta) (H : Heap) (locs : List Loc) (ls : Array Slot), f_X10_play_26 s0 σ = some o → va_P D vwCl (wd Y E σ 0 (LM ++ X)) H → va_S (AF E (LM ++ X).length s.heap.size) s.heap H locs → lv_has ls 2 [] → WI p l e rm_X10_play s m args below meth c (LM ++ X) Y D E o H locs (F0 m 26 ls [.int s0]) := by
  intro s0 σ H locs ls h hP hS hl
  unfold f_X10_play_26 at h
  obtain ⟨hC, hb, hml, hr, hlk, hD, hSW⟩ := id hF
  have hx := hC.1
  exact x_iret hF hP hS h dX10_play_26

def f_X10_play (a1 : Int32) (σ : Sta) : Option (Int32 × Sta) :=
  lt (sI σ 0 0) (fun σ1 =>
  bnd (f_X10_isStrategy a1 σ1) (fun r2 σ3 =>
  if r2 = 0 then
    bnd (f_X10_fail 1 σ3) (fun r6 σ7 =>
    f_X10_play_26 r6 σ7)
  else
    bnd (f_X10_playOne a1 σ3) (fun r9 σ10 =>
    f_X10_play_26 r9 σ10)))
set_option maxHeartbeats 4000000 in
set_option maxRecDepth 100000 in
theorem c_X10_play {l : Launch} {D : va_G} {Y : CYs} {E : Nat → Nat} {X : List Dsc} (hX : Lok (LM ++ X)) {a1 : Int32} {σ : Sta} {o : Int32 × Sta} (h : f_X10_play a1 σ = some o) : MI l yX10_play (Cond.code yX10_play cX10_play 2 (some .int) :: gW) rm_X10_play (LM ++ X) Y D E [.ref (E 0), .int a1] σ o := by
  intro sz
  refine Met_of (Qc := fun sz => QI (LM ++ X) Y D E sz o) (by decide) (Nat.le_of_ble_eq_true rfl) (fun p e s m args below meth c hF hP ls hl => ?_) sz
  have hS : va_S (AF E (LM ++ X).length s.heap.size) s.heap s.heap [] := va_S.rf
  have hl : lv_has ls 2 [(0, .ref (E 0)), (1, .int a1)] := hl
  show WI p l e rm_X10_play s m args below meth c (LM ++ X) Y D E o s.heap [] (F0 m 0 ls [])
  unfold f_X10_play at h
  obtain ⟨hC, hb, hml, hr, hlk, hD, hSW⟩ := id hF
  have hx := hC.1
  refine lv_aload_n hx hb dX10_play_0 rfl (lv_at hl 0 rfl) ?_
  refine lv_iconst (v := 0) hx hb dX10_play_1 (by decide) ?_
  refine pf_X10_140 hX hC hb hP hD hS dX10_play_2 (fun H locs σ1 eσ1 hP hS => ?_)
  have h := of_lt h eσ1
  refine lv_aload_n hx hb dX10_play_5 rfl (lv_at hl 0 rfl) ?_
  refine lv_iload_n hx hb dX10_play_6 rfl (lv_at hl 1 rfl) ?_
  obtain ⟨r2, σ3, g4, h⟩ := of_bnd h
  refine x_VI (As := [.int a1]) (rest := []) hF hl hP hS (c_X10_isStrategy hX g4) (cw_X10_432 hC rfl rfl ⟨Nat.le_of_ble_eq_true rfl, Nat.le_of_ble_eq_true rfl⟩) (lm_0 X) rfl rfl rfl (Nat.le_of_ble_eq_true rfl) dX10_play_7 ⟨Nat.zero_le _, Nat.zero_le _⟩ (fun H locs hP hS => ?_)
  refine lv_if_eq (tgt := 21) hx hb dX10_play_10 (by decide) (fun c5 => ?_) (fun c5 => ?_)
  · have h := of_t h c5
    refine lv_aload_n hx hb dX10_play_21 rfl (lv_at hl 0 rfl) ?_
    refine lv_iconst (v := 1) hx hb dX10_play_22 (by decide) ?_
    obtain ⟨r6, σ7, g8, h⟩ := of_bnd h
    refine x_VI (As := [.int 1]) (rest := []) hF hl hP hS (c_X10_fail hX g8) (cw_X10_146 hC rfl rfl ⟨Nat.le_of_ble_eq_true rfl, Nat.le_of_ble_eq_true rfl⟩) (lm_0 X) rfl rfl rfl (Nat.le_of_ble_eq_true rfl) dX10_play_23 ⟨Nat.zero_le _, Nat.zero_le _⟩ (fun H locs hP hS => ?_)
    exact t_X10_play_26 hX  hF r6 σ7 _ _ _ h hP hS (lv_sub hl [] rfl)
  · have h := of_f h c5
    refine lv_aload_n hx hb dX10_play_13 rfl (lv_at hl 0 rfl) ?_
    refine lv_iload_n hx hb dX10_play_14 rfl (lv_at hl 1 rfl) ?_
    obtain ⟨r9, σ10, g11, h⟩ := of_bnd h
    refine x_VI (As := [.int a1]) (rest := []) hF hl hP hS (c_X10_playOne hX g11) (cw_X10_453 hC rfl rfl ⟨Nat.le_of_ble_eq_true rfl, Nat.le_of_ble_eq_true rfl⟩) (lm_0 X) rfl rfl rfl (Nat.le_of_ble_eq_true rfl) dX10_play_15 ⟨Nat.zero_le _, Nat.zero_le _⟩ (fun H locs hP hS => ?_)
    refine lv_goto (tgt := 26) hx hb dX10_play_18 (by decide) ?_
    exact t_X10_play_26 hX  hF r9 σ10 _ _ _ h hP hS (lv_sub hl [] rfl)

abbrev rm_X10_played : Room := { frames := 1, cells := 0, slots := 0, locals := 25 }
def f_X10_played_38 (s0 : Int64) (σ : Sta) : Option (Int64 × Sta) :=
  some (s0, σ)
set_option maxHeartbeats 4000000 in
set_option maxRecDepth 100000 in
theorem t_X10_played_38 {l : Launch} {D : va_G} {Y : CYs} {E : Nat → Nat} {X : List Dsc} (hX : Lok (LM ++ X)) {p : Program} {e : Env} {s : State} {m : MethodId} {args : Array Value} {below : List Frame} {meth : Method} {c : Code} (hF : Fr p s m args meth c RX10 cX10_played 2 (some .long) D Y E (LM ++ X)) {o : Int64 × Sta} : ∀ (s0 : Int64) (σ : Sta) (H : Heap) (locs : List Loc) (ls : Array Slot), f_X10_played_38 s0 σ = some o → va_P D vwCl (wd Y E σ 0 (LM ++ X)) H → va_S (AF E (LM ++ X).length s.heap.size) s.heap H locs → lv_has ls 2 [] → WL p l e rm_X10_played s m args below meth c (LM ++ X) Y D E o H locs (F0 m 38 ls [.long s0]) := by
  intro s0 σ H locs ls h hP hS hl
  unfold f_X10_played_38 at h
  obtain ⟨hC, hb, hml, hr, hlk, hD, hSW⟩ := id hF
  have hx := hC.1
  exact x_lret hF hP hS h dX10_played_38

def f_X10_played_18 (v1 : Int32) (s0 : Int32) (σ : Sta) : Option (Int64 × Sta) :=
  lt (sI σ 0 s0) (fun σ1 =>
  if gI σ1 0 = 0 then
    if v1 < 0 ∨ 4 ≤ (v1.toNatClampNeg) then none else (
    f_X10_played_38 (gJ σ1 37 (v1.toNatClampNeg)) σ1)
  else
    f_X10_played_38 0 σ1)
set_option maxHeartbeats 4000000 in
set_option maxRecDepth 100000 in
theorem t_X10_played_18 {l : Launch} {D : va_G} {Y : CYs} {E : Nat → Nat} {X : List Dsc} (hX : Lok (LM ++ X)) {p : Program} {e : Env} {s : State} {m : MethodId} {args : Array Value} {below : List Frame} {meth : Method} {c : Code} (hF : Fr p s m args meth c RX10 cX10_played 2 (some .long) D Y E (LM ++ X)) {o : Int64 × Sta} : ∀ (v1 : Int32) (s0 : Int32) (σ : Sta) (H : Heap) (locs : List Loc) (ls : Array Slot), f_X10_played_18 v1 s0 σ = some o → va_P D vwCl (wd Y E σ 0 (LM ++ X)) H → va_S (AF E (LM ++ X).length s.heap.size) s.heap H locs → lv_has ls 2 [(0, .ref (E 0)), (1, .int v1)] → WL p l e rm_X10_played s m args below meth c (LM ++ X) Y D E o H locs (F0 m 18 ls [.int s0, .ref (E 0)]) := by
  intro v1 s0 σ H locs ls h hP hS hl
  unfold f_X10_played_18 at h
  obtain ⟨hC, hb, hml, hr, hlk, hD, hSW⟩ := id hF
  have hx := hC.1
  refine pf_X10_140 hX hC hb hP hD hS dX10_played_18 (fun H locs σ1 eσ1 hP hS => ?_)
  have h := of_lt h eσ1
  refine lv_aload_n hx hb dX10_played_21 rfl (lv_at hl 0 rfl) ?_
  refine gf_X10_140 hC hb hP dX10_played_22 ?_
  refine lv_if_ne (tgt := 37) hx hb dX10_played_25 (by decide) (fun c2 => ?_) (fun c2 => ?_)
  · have h := of_f h c2
    refine lv_lconst (v := 0) hx hb dX10_played_37 (by decide) ?_
    exact t_X10_played_38 hX  hF 0 σ1 _ _ _ h hP hS (lv_sub hl [] rfl)
  · have h := of_t h c2
    refine lv_aload_n hx hb dX10_played_28 rfl (lv_at hl 0 rfl) ?_
    refine gf_X10_125 hC hb hP dX10_played_29 ?_
    refine lv_iload_n hx hb dX10_played_32 rfl (lv_at hl 1 rfl) ?_
    obtain ⟨g3, h⟩ := of_gd h
    refine x_lald hC hb hP (lm_37 X) g3 dX10_played_33 ?_
    refine lv_goto (tgt := 38) hx hb dX10_played_34 (by decide) ?_
    exact t_X10_played_38 hX  hF (gJ σ1 37 (v1.toNatClampNeg)) σ1 _ _ _ h hP hS (lv_sub hl [] rfl)

def f_X10_played (a1 : Int32) (σ : Sta) : Option (Int64 × Sta) :=
  bnd (f_X10_isIn a1.toInt64 0 3 σ) (fun r1 σ2 =>
  if r1 = 0 then
    f_X10_played_18 a1 1 σ2
  else
    f_X10_played_18 a1 0 σ2)
set_option maxHeartbeats 4000000 in
set_option maxRecDepth 100000 in
theorem c_X10_played {l : Launch} {D : va_G} {Y : CYs} {E : Nat → Nat} {X : List Dsc} (hX : Lok (LM ++ X)) {a1 : Int32} {σ : Sta} {o : Int64 × Sta} (h : f_X10_played a1 σ = some o) : ML l yX10_played (Cond.code yX10_played cX10_played 2 (some .long) :: gW) rm_X10_played (LM ++ X) Y D E [.ref (E 0), .int a1] σ o := by
  intro sz
  refine Met_of (Qc := fun sz => QL (LM ++ X) Y D E sz o) (by decide) (Nat.le_of_ble_eq_true rfl) (fun p e s m args below meth c hF hP ls hl => ?_) sz
  have hS : va_S (AF E (LM ++ X).length s.heap.size) s.heap s.heap [] := va_S.rf
  have hl : lv_has ls 2 [(0, .ref (E 0)), (1, .int a1)] := hl
  show WL p l e rm_X10_played s m args below meth c (LM ++ X) Y D E o s.heap [] (F0 m 0 ls [])
  unfold f_X10_played at h
  obtain ⟨hC, hb, hml, hr, hlk, hD, hSW⟩ := id hF
  have hx := hC.1
  refine lv_aload_n hx hb dX10_played_0 rfl (lv_at hl 0 rfl) ?_
  refine lv_iload_n hx hb dX10_played_1 rfl (lv_at hl 1 rfl) ?_
  refine lv_i2l (v := a1.toInt64) hx hb dX10_played_2 rfl ?_
  refine lv_lconst (v := 0) hx hb dX10_played_3 (by decide) ?_
  refine lv_ldc2 (v := 3) hx hb hC.2.2.1 (hC.2.1 (Cond.constantLong RX10 456 3) (gw_t (tb8 (List.mem_of_getElem? (i := 129) rfl)) rfl)) dX10_played_4 ?_
  obtain ⟨r1, σ2, g3, h⟩ := of_bnd h
  refine x_SI (As := [.long a1.toInt64, .long 0, .long 3]) (rest := [.ref (E 0)]) hF hl hP hS (c_X10_isIn hX g3) (cw_X10_154 hC rfl rfl ⟨Nat.le_of_ble_eq_true rfl, Nat.le_of_ble_eq_true rfl⟩) rfl rfl (Nat.le_of_ble_eq_true rfl) dX10_played_7 ⟨Nat.zero_le _, Nat.zero_le _⟩ (fun H locs hP hS => ?_)
  refine lv_if_eq (tgt := 17) hx hb dX10_played_10 (by decide) (fun c4 => ?_) (fun c4 => ?_)
  · have h := of_t h c4
    refine lv_iconst (v := 1) hx hb dX10_played_17 (by decide) ?_
    exact t_X10_played_18 hX  hF a1 1 σ2 _ _ _ h hP hS (lv_sub hl [0, 1] rfl)
  · have h := of_f h c4
    refine lv_iconst (v := 0) hx hb dX10_played_13 (by decide) ?_
    refine lv_goto (tgt := 18) hx hb dX10_played_14 (by decide) ?_
    exact t_X10_played_18 hX  hF a1 0 σ2 _ _ _ h hP hS (lv_sub hl [0, 1] rfl)

abbrev rm_X10_average : Room := { frames := 2, cells := 0, slots := 0, locals := 50 }
def f_X10_average_88 (k56 : Int32 → Int32 → Int32 → Int64 → Int32 → Sta → Option (UInt64 × Sta)) (v1 : Int32) (v2 : Int32) (v3 : Int32) (v6 : Int32) (s0 : Int64) (s1 : Int64) (σ : Sta) : Option (UInt64 × Sta) :=
  lt (s1 + s0) (fun x1 =>
  lt (v6 + 1) (fun x2 =>
  k56 v1 v2 v3 x1 x2 σ))
set_option maxHeartbeats 4000000 in
set_option maxRecDepth 100000 in
theorem t_X10_average_88 {l : Launch} {D : va_G} {Y : CYs} {E : Nat → Nat} {X : List Dsc} (hX : Lok (LM ++ X)) {p : Program} {e : Env} {s : State} {m : MethodId} {args : Array Value} {below : List Frame} {meth : Method} {c : Code} (hF : Fr p s m args meth c RX10 cX10_average 8 (some .double) D Y E (LM ++ X)) {o : UInt64 × Sta} (k56 : Int32 → Int32 → Int32 → Int64 → Int32 → Sta → Option (UInt64 × Sta)) (hk56 : ∀ (v1 : Int32) (v2 : Int32) (v3 : Int32) (v4 : Int64) (v6 : Int32) (σ : Sta) (H : Heap) (locs : List Loc) (ls : Array Slot), k56 v1 v2 v3 v4 v6 σ = some o → va_P D vwCl (wd Y E σ 0 (LM ++ X)) H → va_S (AF E (LM ++ X).length s.heap.size) s.heap H locs → lv_has ls 8 [(0, .ref (E 0)), (1, .int v1), (2, .int v2), (3, .int v3), (4, .long v4), (6, .int v6)] → WD p l e rm_X10_average s m args below meth c (LM ++ X) Y D E o H locs (F0 m 56 ls [])) : ∀ (v1 : Int32) (v2 : Int32) (v3 : Int32) (v6 : Int32) (s0 : Int64) (s1 : Int64) (σ : Sta) (H : Heap) (locs : List Loc) (ls : Array Slot), f_X10_average_88 k56 v1 v2 v3 v6 s0 s1 σ = some o → va_P D vwCl (wd Y E σ 0 (LM ++ X)) H → va_S (AF E (LM ++ X).length s.heap.size) s.heap H locs → lv_has ls 8 [(0, .ref (E 0)), (1, .int v1), (2, .int v2), (3, .int v3), (6, .int v6)] → WD p l e rm_X10_average s m args below meth c (LM ++ X) Y D E o H locs (F0 m 88 ls [.long s0, .long s1]) := by
  intro v1 v2 v3 v6 s0 s1 σ H locs ls h hP hS hl
  unfold f_X10_average_88 at h
  obtain ⟨hC, hb, hml, hr, hlk, hD, hSW⟩ := id hF
  have hx := hC.1
  refine lv_ladd hx hb dX10_average_88 ?_
  refine lv_topl (fun x1 ex1 => ?_)
  have h := of_lt h ex1
  refine lv_lstore (lv' := [(4, .long x1), (0, .ref (E 0)), (1, .int v1), (2, .int v2), (3, .int v3), (6, .int v6)]) hx hb dX10_average_89 hl (by decide) rfl (fun ls hl => ?_)
  obtain ⟨x2, ex2⟩ : ∃ y : Int32, y = v6 + 1 := ⟨_, rfl⟩
  have h := of_lt h ex2
  refine lv_iinc (v := x2) (lv' := [(6, .int x2), (4, .long x1), (0, .ref (E 0)), (1, .int v1), (2, .int v2), (3, .int v3)]) hx hb dX10_average_91 hl (k := 5) rfl (by rw [ex2]; rfl) (by decide) rfl (fun ls hl => ?_)
  refine lv_goto (tgt := 56) hx hb dX10_average_94 (by decide) ?_
  exact hk56 v1 v2 v3 x1 x2 σ _ _ _ h hP hS (lv_sub hl [2, 3, 4, 5, 1, 0] rfl)

def f_X10_average_56 : Nat → Int32 → Int32 → Int32 → Int64 → Int32 → Sta → Option (UInt64 × Sta)
  | 0, _, _, _, _, _, _ => none
  | n + 1, v1, v2, v3, v4, v6, σ => if v3 ≤ v6 then
      if ¬ ((FP.ddiv (FP.l2d v4) (FP.i2d v3)) &&& 0x7fffffffffffffff ≤ 0x7ff0000000000000) then none else (
      some (FP.ddiv (FP.l2d v4) (FP.i2d v3), σ))
    else
      bnd (f_X10_playOne v1 σ) (fun r3 σ4 =>
      if 0 ≤ r3 then
        if 1 + v2 < 0 ∨ 4 ≤ ((1 + v2).toNatClampNeg) then none else (
        f_X10_average_88 (f_X10_average_56 n) v1 v2 v3 v6 (gJ σ4 37 ((1 + v2).toNatClampNeg)) v4 σ4)
      else
        f_X10_average_88 (f_X10_average_56 n) v1 v2 v3 v6 0 v4 σ4)
set_option maxHeartbeats 4000000 in
set_option maxRecDepth 100000 in
theorem t_X10_average_56 {l : Launch} {D : va_G} {Y : CYs} {E : Nat → Nat} {X : List Dsc} (hX : Lok (LM ++ X)) {p : Program} {e : Env} {s : State} {m : MethodId} {args : Array Value} {below : List Frame} {meth : Method} {c : Code} (hF : Fr p s m args meth c RX10 cX10_average 8 (some .double) D Y E (LM ++ X)) {o : UInt64 × Sta} : ∀ (n : Nat) (v1 : Int32) (v2 : Int32) (v3 : Int32) (v4 : Int64) (v6 : Int32) (σ : Sta) (H : Heap) (locs : List Loc) (ls : Array Slot), f_X10_average_56 n v1 v2 v3 v4 v6 σ = some o → va_P D vwCl (wd Y E σ 0 (LM ++ X)) H → va_S (AF E (LM ++ X).length s.heap.size) s.heap H locs → lv_has ls 8 [(0, .ref (E 0)), (1, .int v1), (2, .int v2), (3, .int v3), (4, .long v4), (6, .int v6)] → WD p l e rm_X10_average s m args below meth c (LM ++ X) Y D E o H locs (F0 m 56 ls []) := by
  intro n
  induction n with
  | zero =>
    intro v1 v2 v3 v4 v6 σ H locs ls h hP hS hl
    exact nomatch (show (none : Option (UInt64 × Sta)) = some o from h)
  | succ n ih =>
    intro v1 v2 v3 v4 v6 σ H locs ls h hP hS hl
    rw [f_X10_average_56] at h
    obtain ⟨hC, hb, hml, hr, hlk, hD, hSW⟩ := id hF
    have hx := hC.1
    refine lv_iload hx hb dX10_average_56 (lv_at hl 5 rfl) ?_
    refine lv_iload_n hx hb dX10_average_58 rfl (lv_at hl 3 rfl) ?_
    refine lv_icmp_ge (tgt := 97) hx hb dX10_average_59 (by decide) (fun c1 => ?_) (fun c1 => ?_)
    · have h := of_t h c1
      refine lv_lload hx hb dX10_average_97 (lv_at hl 4 rfl) ?_
      refine lv_l2d hx hb dX10_average_99 ?_
      refine lv_iload_n hx hb dX10_average_100 rfl (lv_at hl 3 rfl) ?_
      refine lv_i2d hx hb dX10_average_101 ?_
      obtain ⟨g2, h⟩ := of_gd h
      refine lv_ddiv hx hb dX10_average_102 (Classical.not_not.mp g2) ?_
      exact x_dret hF hP hS h dX10_average_103
    · have h := of_f h c1
      refine lv_aload_n hx hb dX10_average_62 rfl (lv_at hl 0 rfl) ?_
      refine lv_iload_n hx hb dX10_average_63 rfl (lv_at hl 1 rfl) ?_
      obtain ⟨r3, σ4, g5, h⟩ := of_bnd h
      refine x_VI (As := [.int v1]) (rest := []) hF hl hP hS (c_X10_playOne hX g5) (cw_X10_453 hC rfl rfl ⟨Nat.le_of_ble_eq_true rfl, Nat.le_of_ble_eq_true rfl⟩) (lm_0 X) rfl rfl rfl (Nat.le_of_ble_eq_true rfl) dX10_average_64 ⟨Nat.zero_le _, Nat.zero_le _⟩ (fun H locs hP hS => ?_)
      refine lv_istore (lv' := [(7, .int r3), (0, .ref (E 0)), (1, .int v1), (2, .int v2), (3, .int v3), (4, .long v4), (6, .int v6)]) hx hb dX10_average_67 hl (by decide) rfl (fun ls hl => ?_)
      refine lv_lload hx hb dX10_average_69 (lv_at hl 5 rfl) ?_
      refine lv_iload hx hb dX10_average_71 (lv_at hl 0 rfl) ?_
      refine lv_if_ge (tgt := 80) hx hb dX10_average_73 (by decide) (fun c6 => ?_) (fun c6 => ?_)
      · have h := of_t h c6
        refine lv_aload_n hx hb dX10_average_80 rfl (lv_at hl 1 rfl) ?_
        refine gf_X10_125 hC hb hP dX10_average_81 ?_
        refine lv_iconst (v := 1) hx hb dX10_average_84 (by decide) ?_
        refine lv_iload_n hx hb dX10_average_85 rfl (lv_at hl 3 rfl) ?_
        refine lv_iadd hx hb dX10_average_86 ?_
        obtain ⟨g7, h⟩ := of_gd h
        refine x_lald hC hb hP (lm_37 X) g7 dX10_average_87 ?_
        exact t_X10_average_88 hX  hF (f_X10_average_56 n) ih v1 v2 v3 v6 (gJ σ4 37 ((1 + v2).toNatClampNeg)) v4 σ4 _ _ _ h hP hS (lv_sub hl [1, 2, 3, 4, 6] rfl)
      · have h := of_f h c6
        refine lv_lconst (v := 0) hx hb dX10_average_76 (by decide) ?_
        refine lv_goto (tgt := 88) hx hb dX10_average_77 (by decide) ?_
        exact t_X10_average_88 hX  hF (f_X10_average_56 n) ih v1 v2 v3 v6 0 v4 σ4 _ _ _ h hP hS (lv_sub hl [1, 2, 3, 4, 6] rfl)

def f_X10_average_38 (v1 : Int32) (v2 : Int32) (v3 : Int32) (s0 : Int32) (σ : Sta) : Option (UInt64 × Sta) :=
  lt (sI σ 0 s0) (fun σ1 =>
  if gI σ1 0 = 0 then
    f_X10_average_56 FU v1 v2 v3 0 0 σ1
  else
    some (0, σ1))
set_option maxHeartbeats 4000000 in
set_option maxRecDepth 100000 in
theorem t_X10_average_38 {l : Launch} {D : va_G} {Y : CYs} {E : Nat → Nat} {X : List Dsc} (hX : Lok (LM ++ X)) {p : Program} {e : Env} {s : State} {m : MethodId} {args : Array Value} {below : List Frame} {meth : Method} {c : Code} (hF : Fr p s m args meth c RX10 cX10_average 8 (some .double) D Y E (LM ++ X)) {o : UInt64 × Sta} : ∀ (v1 : Int32) (v2 : Int32) (v3 : Int32) (s0 : Int32) (σ : Sta) (H : Heap) (locs : List Loc) (ls : Array Slot), f_X10_average_38 v1 v2 v3 s0 σ = some o → va_P D vwCl (wd Y E σ 0 (LM ++ X)) H → va_S (AF E (LM ++ X).length s.heap.size) s.heap H locs → lv_has ls 8 [(0, .ref (E 0)), (1, .int v1), (2, .int v2), (3, .int v3)] → WD p l e rm_X10_average s m args below meth c (LM ++ X) Y D E o H locs (F0 m 38 ls [.int s0, .ref (E 0)]) := by
  intro v1 v2 v3 s0 σ H locs ls h hP hS hl
  unfold f_X10_average_38 at h
  obtain ⟨hC, hb, hml, hr, hlk, hD, hSW⟩ := id hF
  have hx := hC.1
  refine pf_X10_140 hX hC hb hP hD hS dX10_average_38 (fun H locs σ1 eσ1 hP hS => ?_)
  have h := of_lt h eσ1
  refine lv_aload_n hx hb dX10_average_41 rfl (lv_at hl 0 rfl) ?_
  refine gf_X10_140 hC hb hP dX10_average_42 ?_
  refine lv_if_eq (tgt := 50) hx hb dX10_average_45 (by decide) (fun c2 => ?_) (fun c2 => ?_)
  · have h := of_t h c2
    refine lv_lconst (v := 0) hx hb dX10_average_50 (by decide) ?_
    refine lv_lstore (lv' := [(4, .long 0), (0, .ref (E 0)), (1, .int v1), (2, .int v2), (3, .int v3)]) hx hb dX10_average_51 hl (by decide) rfl (fun ls hl => ?_)
    refine lv_iconst (v := 0) hx hb dX10_average_53 (by decide) ?_
    refine lv_istore (lv' := [(6, .int 0), (4, .long 0), (0, .ref (E 0)), (1, .int v1), (2, .int v2), (3, .int v3)]) hx hb dX10_average_54 hl (by decide) rfl (fun ls hl => ?_)
    exact t_X10_average_56 hX  hF FU v1 v2 v3 0 0 σ1 _ _ _ h hP hS (lv_sub hl [2, 3, 4, 5, 1, 0] rfl)
  · have h := of_f h c2
    refine lv_dconst0 hx hb dX10_average_48 ?_
    exact x_dret hF hP hS h dX10_average_49

def f_X10_average_17 (v1 : Int32) (v2 : Int32) (v3 : Int32) (σ : Sta) : Option (UInt64 × Sta) :=
  f_X10_average_38 v1 v2 v3 1 σ
set_option maxHeartbeats 4000000 in
set_option maxRecDepth 100000 in
theorem t_X10_average_17 {l : Launch} {D : va_G} {Y : CYs} {E : Nat → Nat} {X : List Dsc} (hX : Lok (LM ++ X)) {p : Program} {e : Env} {s : State} {m : MethodId} {args : Array Value} {below : List Frame} {meth : Method} {c : Code} (hF : Fr p s m args meth c RX10 cX10_average 8 (some .double) D Y E (LM ++ X)) {o : UInt64 × Sta} : ∀ (v1 : Int32) (v2 : Int32) (v3 : Int32) (σ : Sta) (H : Heap) (locs : List Loc) (ls : Array Slot), f_X10_average_17 v1 v2 v3 σ = some o → va_P D vwCl (wd Y E σ 0 (LM ++ X)) H → va_S (AF E (LM ++ X).length s.heap.size) s.heap H locs → lv_has ls 8 [(0, .ref (E 0)), (1, .int v1), (2, .int v2), (3, .int v3)] → WD p l e rm_X10_average s m args below meth c (LM ++ X) Y D E o H locs (F0 m 17 ls [.ref (E 0)]) := by
  intro v1 v2 v3 σ H locs ls h hP hS hl
  unfold f_X10_average_17 at h
  obtain ⟨hC, hb, hml, hr, hlk, hD, hSW⟩ := id hF
  have hx := hC.1
  refine lv_iconst (v := 1) hx hb dX10_average_17 (by decide) ?_
  refine lv_goto (tgt := 38) hx hb dX10_average_18 (by decide) ?_
  exact t_X10_average_38 hX  hF v1 v2 v3 1 σ _ _ _ h hP hS (lv_sub hl [0, 1, 2, 3] rfl)

def f_X10_average (a1 : Int32) (a2 : Int32) (a3 : Int32) (σ : Sta) : Option (UInt64 × Sta) :=
  bnd (f_X10_isStrategy a1 σ) (fun r1 σ2 =>
  if r1 = 0 then
    f_X10_average_17 a1 a2 a3 σ2
  else
    bnd (f_X10_isGain a2 σ2) (fun r5 σ6 =>
    if r5 = 0 then
      f_X10_average_17 a1 a2 a3 σ6
    else
      bnd (f_X10_isIn a3.toInt64 1 20 σ6) (fun r9 σ10 =>
      if r9 = 0 then
        f_X10_average_38 a1 a2 a3 2 σ10
      else
        f_X10_average_38 a1 a2 a3 0 σ10)))
set_option maxHeartbeats 4000000 in
set_option maxRecDepth 100000 in
theorem c_X10_average {l : Launch} {D : va_G} {Y : CYs} {E : Nat → Nat} {X : List Dsc} (hX : Lok (LM ++ X)) {a1 : Int32} {a2 : Int32} {a3 : Int32} {σ : Sta} {o : UInt64 × Sta} (h : f_X10_average a1 a2 a3 σ = some o) : MD l yX10_average (Cond.code yX10_average cX10_average 8 (some .double) :: gW) rm_X10_average (LM ++ X) Y D E [.ref (E 0), .int a1, .int a2, .int a3] σ o := by
  intro sz
  refine Met_of (Qc := fun sz => QD (LM ++ X) Y D E sz o) (by decide) (Nat.le_of_ble_eq_true rfl) (fun p e s m args below meth c hF hP ls hl => ?_) sz
  have hS : va_S (AF E (LM ++ X).length s.heap.size) s.heap s.heap [] := va_S.rf
  have hl : lv_has ls 8 [(0, .ref (E 0)), (1, .int a1), (2, .int a2), (3, .int a3)] := hl
  show WD p l e rm_X10_average s m args below meth c (LM ++ X) Y D E o s.heap [] (F0 m 0 ls [])
  unfold f_X10_average at h
  obtain ⟨hC, hb, hml, hr, hlk, hD, hSW⟩ := id hF
  have hx := hC.1
  refine lv_aload_n hx hb dX10_average_0 rfl (lv_at hl 0 rfl) ?_
  refine lv_aload_n hx hb dX10_average_1 rfl (lv_at hl 0 rfl) ?_
  refine lv_iload_n hx hb dX10_average_2 rfl (lv_at hl 1 rfl) ?_
  obtain ⟨r1, σ2, g3, h⟩ := of_bnd h
  refine x_VI (As := [.int a1]) (rest := [.ref (E 0)]) hF hl hP hS (c_X10_isStrategy hX g3) (cw_X10_432 hC rfl rfl ⟨Nat.le_of_ble_eq_true rfl, Nat.le_of_ble_eq_true rfl⟩) (lm_0 X) rfl rfl rfl (Nat.le_of_ble_eq_true rfl) dX10_average_3 ⟨Nat.zero_le _, Nat.zero_le _⟩ (fun H locs hP hS => ?_)
  refine lv_if_eq (tgt := 17) hx hb dX10_average_6 (by decide) (fun c4 => ?_) (fun c4 => ?_)
  · have h := of_t h c4
    exact t_X10_average_17 hX  hF a1 a2 a3 σ2 _ _ _ h hP hS (lv_sub hl [0, 1, 2, 3] rfl)
  · have h := of_f h c4
    refine lv_aload_n hx hb dX10_average_9 rfl (lv_at hl 0 rfl) ?_
    refine lv_iload_n hx hb dX10_average_10 rfl (lv_at hl 2 rfl) ?_
    obtain ⟨r5, σ6, g7, h⟩ := of_bnd h
    refine x_VI (As := [.int a2]) (rest := [.ref (E 0)]) hF hl hP hS (c_X10_isGain hX g7) (cw_X10_419 hC rfl rfl ⟨Nat.le_of_ble_eq_true rfl, Nat.le_of_ble_eq_true rfl⟩) (lm_0 X) rfl rfl rfl (Nat.le_of_ble_eq_true rfl) dX10_average_11 ⟨Nat.zero_le _, Nat.zero_le _⟩ (fun H locs hP hS => ?_)
    refine lv_if_ne (tgt := 21) hx hb dX10_average_14 (by decide) (fun c8 => ?_) (fun c8 => ?_)
    · have h := of_f h c8
      refine lv_iload_n hx hb dX10_average_21 rfl (lv_at hl 3 rfl) ?_
      refine lv_i2l (v := a3.toInt64) hx hb dX10_average_22 rfl ?_
      refine lv_lconst (v := 1) hx hb dX10_average_23 (by decide) ?_
      refine lv_ldc2 (v := 20) hx hb hC.2.2.1 (hC.2.1 (Cond.constantLong RX10 458 20) (gw_t (tb8 (List.mem_of_getElem? (i := 134) rfl)) rfl)) dX10_average_24 ?_
      obtain ⟨r9, σ10, g11, h⟩ := of_bnd h
      refine x_SI (As := [.long a3.toInt64, .long 1, .long 20]) (rest := [.ref (E 0)]) hF hl hP hS (c_X10_isIn hX g11) (cw_X10_154 hC rfl rfl ⟨Nat.le_of_ble_eq_true rfl, Nat.le_of_ble_eq_true rfl⟩) rfl rfl (Nat.le_of_ble_eq_true rfl) dX10_average_27 ⟨Nat.zero_le _, Nat.zero_le _⟩ (fun H locs hP hS => ?_)
      refine lv_if_eq (tgt := 37) hx hb dX10_average_30 (by decide) (fun c12 => ?_) (fun c12 => ?_)
      · have h := of_t h c12
        refine lv_iconst (v := 2) hx hb dX10_average_37 (by decide) ?_
        exact t_X10_average_38 hX  hF a1 a2 a3 2 σ10 _ _ _ h hP hS (lv_sub hl [0, 1, 2, 3] rfl)
      · have h := of_f h c12
        refine lv_iconst (v := 0) hx hb dX10_average_33 (by decide) ?_
        refine lv_goto (tgt := 38) hx hb dX10_average_34 (by decide) ?_
        exact t_X10_average_38 hX  hF a1 a2 a3 0 σ10 _ _ _ h hP hS (lv_sub hl [0, 1, 2, 3] rfl)
    · have h := of_t h c8
      exact t_X10_average_17 hX  hF a1 a2 a3 σ6 _ _ _ h hP hS (lv_sub hl [0, 1, 2, 3] rfl)
