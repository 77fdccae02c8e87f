theorem cw_X10_435 {R : Room} {p : Program} {s : State} {m : MethodId} {args : Array Value} {D : va_G} {Y : CYs} {rm : Room} (hC : Ctx p s m args RX10 D Y) (hrc : rm.cells = 0) (hrs : rm.slots = 0) (hR : rm.frames + 1 ≤ R.frames ∧ 8 + (6 + 11) + rm.locals ≤ R.locals) : CallW R s args RX10 RX10 435 yX10_isBetter cX10_isBetter 6 (some .boolean) (Cond.code yX10_isBetter cX10_isBetter 6 (some .boolean) :: gW) rm 0 0 2 :=
  cwV 2 hC.2.1 (gi_V (gw_t (tb8 (List.mem_of_getElem? (i := 78) rfl)) rfl) (gw_t (tb8 (List.mem_of_getElem? (i := 80) rfl)) rfl) (gw_s (q := (⟨"MarkovBenchModel", "isBetter", "(II)Z"⟩, 57)) (lp7_ (List.mem_of_getElem? (i := 13) rfl))) (gw_t (tb1 (List.mem_of_getElem? (i := 10) rfl)) rfl) (gw_t (tb8 (List.mem_of_getElem? (i := 81) rfl)) rfl)) rfl hrc hrs ⟨rfl, by decide +kernel, by decide +kernel, by decide +kernel⟩ hR
theorem cw_X10_441 {R : Room} {p : Program} {s : State} {m : MethodId} {args : Array Value} {D : va_G} {Y : CYs} {rm : Room} (hC : Ctx p s m args RX10 D Y) (hrc : rm.cells = 0) (hrs : rm.slots = 0) (hR : rm.frames + 1 ≤ R.frames ∧ 8 + (5 + 11) + rm.locals ≤ R.locals) : CallW R s args RX10 RX10 441 yX10_mixOf cX10_mixOf 5 (some .long) (Cond.code yX10_mixOf cX10_mixOf 5 (some .long) :: gW) rm 0 0 4 :=
  cwV 4 hC.2.1 (gi_V (gw_t (tb8 (List.mem_of_getElem? (i := 94) rfl)) rfl) (gw_t (tb8 (List.mem_of_getElem? (i := 96) rfl)) rfl) (gw_s (q := (⟨"MarkovBenchModel", "mixOf", "(IIII)J"⟩, 57)) (lp7_ (List.mem_of_getElem? (i := 15) rfl))) (gw_t (tb1 (List.mem_of_getElem? (i := 10) rfl)) rfl) (gw_t (tb8 (List.mem_of_getElem? (i := 97) rfl)) rfl)) rfl hrc hrs ⟨rfl, by decide +kernel, by decide +kernel, by decide +kernel⟩ hR
abbrev rm_X10_worth : Room := { frames := 2, cells := 0, slots := 0, locals := 46 }
def f_X10_worth_73 (s0 : Int64) (σ : Sta) : Option (Int64 × Sta) :=
  some (s0, σ)
set_option maxHeartbeats 4000000 in
set_option maxRecDepth 100000 in
theorem t_X10_worth_73 {l : Launch} {D : va_G} {Y : CYs} {E : Nat → Nat} {X : List Dsc} (hX : Lok (LM ++ X)) {p : Program} {e : Env} {s : State} {m : MethodId} {args : Array Value} {below : List Frame} {meth : Method} {c : Code} (hF : Fr p s m args meth c RX10 cX10_worth 4 (some .long) D Y E (LM ++ X)) {o : Int64 × Sta} : ∀ (s0 : Int64) (σ : Sta) (H : Heap) (locs : List Loc) (ls : Array Slot), f_X10_worth_73 s0 σ = some o → va_P D vwCl (wd Y E σ 0 (LM ++ X)) H → va_S (AF E (LM ++ X).length s.heap.size) s.heap H locs → lv_has ls 4 [] → WL p l e rm_X10_worth s m args below meth c (LM ++ X) Y D E o H locs (F0 m 73 ls [.long s0]) := by
  intro s0 σ H locs ls h hP hS hl
  unfold f_X10_worth_73 at h
  obtain ⟨hC, hb, hml, hr, hlk, hD, hSW⟩ := id hF
  have hx := hC.1
  exact x_lret hF hP hS h dX10_worth_73

def f_X10_worth_42 (v1 : Int32) (v2 : Int32) (v3 : Int32) (s0 : Int32) (σ : Sta) : Option (Int64 × Sta) :=
  lt (sI σ 0 s0) (fun σ1 =>
  if gI σ1 0 = 0 then
    if ((3100 * v1) + (100 * v3)) + v2 < 0 ∨ 68200 ≤ ((((3100 * v1) + (100 * v3)) + v2).toNatClampNeg) then none else (
    f_X10_worth_73 (gJ σ1 32 ((((3100 * v1) + (100 * v3)) + v2).toNatClampNeg)) σ1)
  else
    f_X10_worth_73 0 σ1)
set_option maxHeartbeats 4000000 in
set_option maxRecDepth 100000 in
theorem t_X10_worth_42 {l : Launch} {D : va_G} {Y : CYs} {E : Nat → Nat} {X : List Dsc} (hX : Lok (LM ++ X)) {p : Program} {e : Env} {s : State} {m : MethodId} {args : Array Value} {below : List Frame} {meth : Method} {c : Code} (hF : Fr p s m args meth c RX10 cX10_worth 4 (some .long) D Y E (LM ++ X)) {o : Int64 × Sta} : ∀ (v1 : Int32) (v2 : Int32) (v3 : Int32) (s0 : Int32) (σ : Sta) (H : Heap) (locs : List Loc) (ls : Array Slot), f_X10_worth_42 v1 v2 v3 s0 σ = some o → va_P D vwCl (wd Y E σ 0 (LM ++ X)) H → va_S (AF E (LM ++ X).length s.heap.size) s.heap H locs → lv_has ls 4 [(0, .ref (E 0)), (1, .int v1), (2, .int v2), (3, .int v3)] → WL p l e rm_X10_worth s m args below meth c (LM ++ X) Y D E o H locs (F0 m 42 ls [.int s0, .ref (E 0)]) := by
  intro v1 v2 v3 s0 σ H locs ls h hP hS hl
  unfold f_X10_worth_42 at h
  obtain ⟨hC, hb, hml, hr, hlk, hD, hSW⟩ := id hF
  have hx := hC.1
  refine pf_X10_140 hX hC hb hP hD hS dX10_worth_42 (fun H locs σ1 eσ1 hP hS => ?_)
  have h := of_lt h eσ1
  refine lv_aload_n hx hb dX10_worth_45 rfl (lv_at hl 0 rfl) ?_
  refine gf_X10_140 hC hb hP dX10_worth_46 ?_
  refine lv_if_ne (tgt := 72) hx hb dX10_worth_49 (by decide) (fun c2 => ?_) (fun c2 => ?_)
  · have h := of_f h c2
    refine lv_lconst (v := 0) hx hb dX10_worth_72 (by decide) ?_
    exact t_X10_worth_73 hX  hF 0 σ1 _ _ _ h hP hS (lv_sub hl [] rfl)
  · have h := of_t h c2
    refine lv_aload_n hx hb dX10_worth_52 rfl (lv_at hl 0 rfl) ?_
    refine gf_X10_110 hC hb hP dX10_worth_53 ?_
    refine lv_sipush (v := 3100) hx hb dX10_worth_56 (by decide) ?_
    refine lv_iload_n hx hb dX10_worth_59 rfl (lv_at hl 1 rfl) ?_
    refine lv_imul hx hb dX10_worth_60 ?_
    refine lv_bipush (v := 100) hx hb dX10_worth_61 (by decide) ?_
    refine lv_iload_n hx hb dX10_worth_63 rfl (lv_at hl 3 rfl) ?_
    refine lv_imul hx hb dX10_worth_64 ?_
    refine lv_iadd hx hb dX10_worth_65 ?_
    refine lv_iload_n hx hb dX10_worth_66 rfl (lv_at hl 2 rfl) ?_
    refine lv_iadd hx hb dX10_worth_67 ?_
    obtain ⟨g3, h⟩ := of_gd h
    refine x_lald hC hb hP (lm_32 X) g3 dX10_worth_68 ?_
    refine lv_goto (tgt := 73) hx hb dX10_worth_69 (by decide) ?_
    exact t_X10_worth_73 hX  hF (gJ σ1 32 ((((3100 * v1) + (100 * v3)) + v2).toNatClampNeg)) σ1 _ _ _ h hP hS (lv_sub hl [] rfl)

def f_X10_worth_17 (v1 : Int32) (v2 : Int32) (v3 : Int32) (σ : Sta) : Option (Int64 × Sta) :=
  f_X10_worth_42 v1 v2 v3 1 σ
set_option maxHeartbeats 4000000 in
set_option maxRecDepth 100000 in
theorem t_X10_worth_17 {l : Launch} {D : va_G} {Y : CYs} {E : Nat → Nat} {X : List Dsc} (hX : Lok (LM ++ X)) {p : Program} {e : Env} {s : State} {m : MethodId} {args : Array Value} {below : List Frame} {meth : Method} {c : Code} (hF : Fr p s m args meth c RX10 cX10_worth 4 (some .long) D Y E (LM ++ X)) {o : Int64 × Sta} : ∀ (v1 : Int32) (v2 : Int32) (v3 : Int32) (σ : Sta) (H : Heap) (locs : List Loc) (ls : Array Slot), f_X10_worth_17 v1 v2 v3 σ = some o → va_P D vwCl (wd Y E σ 0 (LM ++ X)) H → va_S (AF E (LM ++ X).length s.heap.size) s.heap H locs → lv_has ls 4 [(0, .ref (E 0)), (1, .int v1), (2, .int v2), (3, .int v3)] → WL p l e rm_X10_worth s m args below meth c (LM ++ X) Y D E o H locs (F0 m 17 ls [.ref (E 0)]) := by
  intro v1 v2 v3 σ H locs ls h hP hS hl
  unfold f_X10_worth_17 at h
  obtain ⟨hC, hb, hml, hr, hlk, hD, hSW⟩ := id hF
  have hx := hC.1
  refine lv_iconst (v := 1) hx hb dX10_worth_17 (by decide) ?_
  refine lv_goto (tgt := 42) hx hb dX10_worth_18 (by decide) ?_
  exact t_X10_worth_42 hX  hF v1 v2 v3 1 σ _ _ _ h hP hS (lv_sub hl [0, 1, 2, 3] rfl)

def f_X10_worth (a1 : Int32) (a2 : Int32) (a3 : Int32) (σ : Sta) : Option (Int64 × Sta) :=
  bnd (f_X10_isStrategy a1 σ) (fun r1 σ2 =>
  if r1 = 0 then
    f_X10_worth_17 a1 a2 a3 σ2
  else
    bnd (f_X10_isState a2 σ2) (fun r5 σ6 =>
    if r5 = 0 then
      f_X10_worth_17 a1 a2 a3 σ6
    else
      if a1 < 0 ∨ 22 ≤ (a1.toNatClampNeg) then none else (
      bnd (f_X10_isIn a3.toInt64 0 ((gA σ6 30 (a1.toNatClampNeg)).toInt64) σ6) (fun r10 σ11 =>
      if r10 = 0 then
        f_X10_worth_42 a1 a2 a3 2 σ11
      else
        f_X10_worth_42 a1 a2 a3 0 σ11))))
set_option maxHeartbeats 4000000 in
set_option maxRecDepth 100000 in
theorem c_X10_worth {l : Launch} {D : va_G} {Y : CYs} {E : Nat → Nat} {X : List Dsc} (hX : Lok (LM ++ X)) {a1 : Int32} {a2 : Int32} {a3 : Int32} {σ : Sta} {o : Int64 × Sta} (h : f_X10_worth a1 a2 a3 σ = some o) : ML l yX10_worth (Cond.code yX10_worth cX10_worth 4 (some .long) :: gW) rm_X10_worth (LM ++ X) Y D E [.ref (E 0), .int a1, .int a2, .int a3] σ o := by
  intro sz
  refine Met_of (Qc := fun sz => QL (LM ++ X) Y D E sz o) (by decide) (Nat.le_of_ble_eq_true rfl) (fun p e s m args below meth c hF hP ls hl => ?_) sz
  have hS : va_S (AF E (LM ++ X).length s.heap.size) s.heap s.heap [] := va_S.rf
  have hl : lv_has ls 4 [(0, .ref (E 0)), (1, .int a1), (2, .int a2), (3, .int a3)] := hl
  show WL p l e rm_X10_worth s m args below meth c (LM ++ X) Y D E o s.heap [] (F0 m 0 ls [])
  unfold f_X10_worth at h
  obtain ⟨hC, hb, hml, hr, hlk, hD, hSW⟩ := id hF
  have hx := hC.1
  refine lv_aload_n hx hb dX10_worth_0 rfl (lv_at hl 0 rfl) ?_
  refine lv_aload_n hx hb dX10_worth_1 rfl (lv_at hl 0 rfl) ?_
  refine lv_iload_n hx hb dX10_worth_2 rfl (lv_at hl 1 rfl) ?_
  obtain ⟨r1, σ2, g3, h⟩ := of_bnd h
  refine x_VI (As := [.int a1]) (rest := [.ref (E 0)]) hF hl hP hS (c_X10_isStrategy hX g3) (cw_X10_432 hC rfl rfl ⟨Nat.le_of_ble_eq_true rfl, Nat.le_of_ble_eq_true rfl⟩) (lm_0 X) rfl rfl rfl (Nat.le_of_ble_eq_true rfl) dX10_worth_3 ⟨Nat.zero_le _, Nat.zero_le _⟩ (fun H locs hP hS => ?_)
  refine lv_if_eq (tgt := 17) hx hb dX10_worth_6 (by decide) (fun c4 => ?_) (fun c4 => ?_)
  · have h := of_t h c4
    exact t_X10_worth_17 hX  hF a1 a2 a3 σ2 _ _ _ h hP hS (lv_sub hl [0, 1, 2, 3] rfl)
  · have h := of_f h c4
    refine lv_aload_n hx hb dX10_worth_9 rfl (lv_at hl 0 rfl) ?_
    refine lv_iload_n hx hb dX10_worth_10 rfl (lv_at hl 2 rfl) ?_
    obtain ⟨r5, σ6, g7, h⟩ := of_bnd h
    refine x_VI (As := [.int a2]) (rest := [.ref (E 0)]) hF hl hP hS (c_X10_isState hX g7) (cw_X10_359 hC rfl rfl ⟨Nat.le_of_ble_eq_true rfl, Nat.le_of_ble_eq_true rfl⟩) (lm_0 X) rfl rfl rfl (Nat.le_of_ble_eq_true rfl) dX10_worth_11 ⟨Nat.zero_le _, Nat.zero_le _⟩ (fun H locs hP hS => ?_)
    refine lv_if_ne (tgt := 21) hx hb dX10_worth_14 (by decide) (fun c8 => ?_) (fun c8 => ?_)
    · have h := of_f h c8
      refine lv_iload_n hx hb dX10_worth_21 rfl (lv_at hl 3 rfl) ?_
      refine lv_i2l (v := a3.toInt64) hx hb dX10_worth_22 rfl ?_
      refine lv_lconst (v := 0) hx hb dX10_worth_23 (by decide) ?_
      refine lv_aload_n hx hb dX10_worth_24 rfl (lv_at hl 0 rfl) ?_
      refine gf_X10_103 hC hb hP dX10_worth_25 ?_
      refine lv_iload_n hx hb dX10_worth_28 rfl (lv_at hl 1 rfl) ?_
      obtain ⟨g9, h⟩ := of_gd h
      refine x_iald hC hb hP (lm_30 X) g9 dX10_worth_29 ?_
      refine lv_i2l (v := (gA σ6 30 (a1.toNatClampNeg)).toInt64) hx hb dX10_worth_30 rfl ?_
      obtain ⟨r10, σ11, g12, h⟩ := of_bnd h
      refine x_SI (As := [.long a3.toInt64, .long 0, .long ((gA σ6 30 (a1.toNatClampNeg)).toInt64)]) (rest := [.ref (E 0)]) hF hl hP hS (c_X10_isIn hX g12) (cw_X10_154 hC rfl rfl ⟨Nat.le_of_ble_eq_true rfl, Nat.le_of_ble_eq_true rfl⟩) rfl rfl (Nat.le_of_ble_eq_true rfl) dX10_worth_31 ⟨Nat.zero_le _, Nat.zero_le _⟩ (fun H locs hP hS => ?_)
      refine lv_if_eq (tgt := 41) hx hb dX10_worth_34 (by decide) (fun c13 => ?_) (fun c13 => ?_)
      · have h := of_t h c13
        refine lv_iconst (v := 2) hx hb dX10_worth_41 (by decide) ?_
        exact t_X10_worth_42 hX  hF a1 a2 a3 2 σ11 _ _ _ h hP hS (lv_sub hl [0, 1, 2, 3] rfl)
      · have h := of_f h c13
        refine lv_iconst (v := 0) hx hb dX10_worth_37 (by decide) ?_
        refine lv_goto (tgt := 42) hx hb dX10_worth_38 (by decide) ?_
        exact t_X10_worth_42 hX  hF a1 a2 a3 0 σ11 _ _ _ h hP hS (lv_sub hl [0, 1, 2, 3] rfl)
    · have h := of_t h c8
      exact t_X10_worth_17 hX  hF a1 a2 a3 σ6 _ _ _ h hP hS (lv_sub hl [0, 1, 2, 3] rfl)

abbrev rm_X10_brings : Room := { frames := 2, cells := 0, slots := 0, locals := 46 }
def f_X10_brings_46 (s0 : Int64) (σ : Sta) : Option (Int64 × Sta) :=
  some (s0, σ)
set_option maxHeartbeats 4000000 in
set_option maxRecDepth 100000 in
theorem t_X10_brings_46 {l : Launch} {D : va_G} {Y : CYs} {E : Nat → Nat} {X : List Dsc} (hX : Lok (LM ++ X)) {p : Program} {e : Env} {s : State} {m : MethodId} {args : Array Value} {below : List Frame} {meth : Method} {c : Code} (hF : Fr p s m args meth c RX10 cX10_brings 3 (some .long) D Y E (LM ++ X)) {o : Int64 × Sta} : ∀ (s0 : Int64) (σ : Sta) (H : Heap) (locs : List Loc) (ls : Array Slot), f_X10_brings_46 s0 σ = some o → va_P D vwCl (wd Y E σ 0 (LM ++ X)) H → va_S (AF E (LM ++ X).length s.heap.size) s.heap H locs → lv_has ls 3 [] → WL p l e rm_X10_brings s m args below meth c (LM ++ X) Y D E o H locs (F0 m 46 ls [.long s0]) := by
  intro s0 σ H locs ls h hP hS hl
  unfold f_X10_brings_46 at h
  obtain ⟨hC, hb, hml, hr, hlk, hD, hSW⟩ := id hF
  have hx := hC.1
  exact x_lret hF hP hS h dX10_brings_46

def f_X10_brings_22 (v1 : Int32) (v2 : Int32) (s0 : Int32) (σ : Sta) : Option (Int64 × Sta) :=
  lt (sI σ 0 s0) (fun σ1 =>
  if gI σ1 0 = 0 then
    if (3 * v1) + v2 < 0 ∨ 66 ≤ (((3 * v1) + v2).toNatClampNeg) then none else (
    f_X10_brings_46 (gJ σ1 33 (((3 * v1) + v2).toNatClampNeg)) σ1)
  else
    f_X10_brings_46 0 σ1)
set_option maxHeartbeats 4000000 in
set_option maxRecDepth 100000 in
theorem t_X10_brings_22 {l : Launch} {D : va_G} {Y : CYs} {E : Nat → Nat} {X : List Dsc} (hX : Lok (LM ++ X)) {p : Program} {e : Env} {s : State} {m : MethodId} {args : Array Value} {below : List Frame} {meth : Method} {c : Code} (hF : Fr p s m args meth c RX10 cX10_brings 3 (some .long) D Y E (LM ++ X)) {o : Int64 × Sta} : ∀ (v1 : Int32) (v2 : Int32) (s0 : Int32) (σ : Sta) (H : Heap) (locs : List Loc) (ls : Array Slot), f_X10_brings_22 v1 v2 s0 σ = some o → va_P D vwCl (wd Y E σ 0 (LM ++ X)) H → va_S (AF E (LM ++ X).length s.heap.size) s.heap H locs → lv_has ls 3 [(0, .ref (E 0)), (1, .int v1), (2, .int v2)] → WL p l e rm_X10_brings s m args below meth c (LM ++ X) Y D E o H locs (F0 m 22 ls [.int s0, .ref (E 0)]) := by
  intro v1 v2 s0 σ H locs ls h hP hS hl
  unfold f_X10_brings_22 at h
  obtain ⟨hC, hb, hml, hr, hlk, hD, hSW⟩ := id hF
  have hx := hC.1
  refine pf_X10_140 hX hC hb hP hD hS dX10_brings_22 (fun H locs σ1 eσ1 hP hS => ?_)
  have h := of_lt h eσ1
  refine lv_aload_n hx hb dX10_brings_25 rfl (lv_at hl 0 rfl) ?_
  refine gf_X10_140 hC hb hP dX10_brings_26 ?_
  refine lv_if_ne (tgt := 45) hx hb dX10_brings_29 (by decide) (fun c2 => ?_) (fun c2 => ?_)
  · have h := of_f h c2
    refine lv_lconst (v := 0) hx hb dX10_brings_45 (by decide) ?_
    exact t_X10_brings_46 hX  hF 0 σ1 _ _ _ h hP hS (lv_sub hl [] rfl)
  · have h := of_t h c2
    refine lv_aload_n hx hb dX10_brings_32 rfl (lv_at hl 0 rfl) ?_
    refine gf_X10_113 hC hb hP dX10_brings_33 ?_
    refine lv_iconst (v := 3) hx hb dX10_brings_36 (by decide) ?_
    refine lv_iload_n hx hb dX10_brings_37 rfl (lv_at hl 1 rfl) ?_
    refine lv_imul hx hb dX10_brings_38 ?_
    refine lv_iload_n hx hb dX10_brings_39 rfl (lv_at hl 2 rfl) ?_
    refine lv_iadd hx hb dX10_brings_40 ?_
    obtain ⟨g3, h⟩ := of_gd h
    refine x_lald hC hb hP (lm_33 X) g3 dX10_brings_41 ?_
    refine lv_goto (tgt := 46) hx hb dX10_brings_42 (by decide) ?_
    exact t_X10_brings_46 hX  hF (gJ σ1 33 (((3 * v1) + v2).toNatClampNeg)) σ1 _ _ _ h hP hS (lv_sub hl [] rfl)

def f_X10_brings_21 (v1 : Int32) (v2 : Int32) (σ : Sta) : Option (Int64 × Sta) :=
  f_X10_brings_22 v1 v2 1 σ
set_option maxHeartbeats 4000000 in
set_option maxRecDepth 100000 in
theorem t_X10_brings_21 {l : Launch} {D : va_G} {Y : CYs} {E : Nat → Nat} {X : List Dsc} (hX : Lok (LM ++ X)) {p : Program} {e : Env} {s : State} {m : MethodId} {args : Array Value} {below : List Frame} {meth : Method} {c : Code} (hF : Fr p s m args meth c RX10 cX10_brings 3 (some .long) D Y E (LM ++ X)) {o : Int64 × Sta} : ∀ (v1 : Int32) (v2 : Int32) (σ : Sta) (H : Heap) (locs : List Loc) (ls : Array Slot), f_X10_brings_21 v1 v2 σ = some o → va_P D vwCl (wd Y E σ 0 (LM ++ X)) H → va_S (AF E (LM ++ X).length s.heap.size) s.heap H locs → lv_has ls 3 [(0, .ref (E 0)), (1, .int v1), (2, .int v2)] → WL p l e rm_X10_brings s m args below meth c (LM ++ X) Y D E o H locs (F0 m 21 ls [.ref (E 0)]) := by
  intro v1 v2 σ H locs ls h hP hS hl
  unfold f_X10_brings_21 at h
  obtain ⟨hC, hb, hml, hr, hlk, hD, hSW⟩ := id hF
  have hx := hC.1
  refine lv_iconst (v := 1) hx hb dX10_brings_21 (by decide) ?_
  exact t_X10_brings_22 hX  hF v1 v2 1 σ _ _ _ h hP hS (lv_sub hl [0, 1, 2] rfl)

def f_X10_brings (a1 : Int32) (a2 : Int32) (σ : Sta) : Option (Int64 × Sta) :=
  bnd (f_X10_isStrategy a1 σ) (fun r1 σ2 =>
  if r1 = 0 then
    f_X10_brings_21 a1 a2 σ2
  else
    bnd (f_X10_isGain a2 σ2) (fun r5 σ6 =>
    if r5 = 0 then
      f_X10_brings_21 a1 a2 σ6
    else
      f_X10_brings_22 a1 a2 0 σ6))
set_option maxHeartbeats 4000000 in
set_option maxRecDepth 100000 in
theorem c_X10_brings {l : Launch} {D : va_G} {Y : CYs} {E : Nat → Nat} {X : List Dsc} (hX : Lok (LM ++ X)) {a1 : Int32} {a2 : Int32} {σ : Sta} {o : Int64 × Sta} (h : f_X10_brings a1 a2 σ = some o) : ML l yX10_brings (Cond.code yX10_brings cX10_brings 3 (some .long) :: gW) rm_X10_brings (LM ++ X) Y D E [.ref (E 0), .int a1, .int a2] σ o := by
  intro sz
  refine Met_of (Qc := fun sz => QL (LM ++ X) Y D E sz o) (by decide) (Nat.le_of_ble_eq_true rfl) (fun p e s m args below meth c hF hP ls hl => ?_) sz
  have hS : va_S (AF E (LM ++ X).length s.heap.size) s.heap s.heap [] := va_S.rf
  have hl : lv_has ls 3 [(0, .ref (E 0)), (1, .int a1), (2, .int a2)] := hl
  show WL p l e rm_X10_brings s m args below meth c (LM ++ X) Y D E o s.heap [] (F0 m 0 ls [])
  unfold f_X10_brings at h
  obtain ⟨hC, hb, hml, hr, hlk, hD, hSW⟩ := id hF
  have hx := hC.1
  refine lv_aload_n hx hb dX10_brings_0 rfl (lv_at hl 0 rfl) ?_
  refine lv_aload_n hx hb dX10_brings_1 rfl (lv_at hl 0 rfl) ?_
  refine lv_iload_n hx hb dX10_brings_2 rfl (lv_at hl 1 rfl) ?_
  obtain ⟨r1, σ2, g3, h⟩ := of_bnd h
  refine x_VI (As := [.int a1]) (rest := [.ref (E 0)]) hF hl hP hS (c_X10_isStrategy hX g3) (cw_X10_432 hC rfl rfl ⟨Nat.le_of_ble_eq_true rfl, Nat.le_of_ble_eq_true rfl⟩) (lm_0 X) rfl rfl rfl (Nat.le_of_ble_eq_true rfl) dX10_brings_3 ⟨Nat.zero_le _, Nat.zero_le _⟩ (fun H locs hP hS => ?_)
  refine lv_if_eq (tgt := 21) hx hb dX10_brings_6 (by decide) (fun c4 => ?_) (fun c4 => ?_)
  · have h := of_t h c4
    exact t_X10_brings_21 hX  hF a1 a2 σ2 _ _ _ h hP hS (lv_sub hl [0, 1, 2] rfl)
  · have h := of_f h c4
    refine lv_aload_n hx hb dX10_brings_9 rfl (lv_at hl 0 rfl) ?_
    refine lv_iload_n hx hb dX10_brings_10 rfl (lv_at hl 2 rfl) ?_
    obtain ⟨r5, σ6, g7, h⟩ := of_bnd h
    refine x_VI (As := [.int a2]) (rest := [.ref (E 0)]) hF hl hP hS (c_X10_isGain hX g7) (cw_X10_419 hC rfl rfl ⟨Nat.le_of_ble_eq_true rfl, Nat.le_of_ble_eq_true rfl⟩) (lm_0 X) rfl rfl rfl (Nat.le_of_ble_eq_true rfl) dX10_brings_11 ⟨Nat.zero_le _, Nat.zero_le _⟩ (fun H locs hP hS => ?_)
    refine lv_if_eq (tgt := 21) hx hb dX10_brings_14 (by decide) (fun c8 => ?_) (fun c8 => ?_)
    · have h := of_t h c8
      exact t_X10_brings_21 hX  hF a1 a2 σ6 _ _ _ h hP hS (lv_sub hl [0, 1, 2] rfl)
    · have h := of_f h c8
      refine lv_iconst (v := 0) hx hb dX10_brings_17 (by decide) ?_
      refine lv_goto (tgt := 22) hx hb dX10_brings_18 (by decide) ?_
      exact t_X10_brings_22 hX  hF a1 a2 0 σ6 _ _ _ h hP hS (lv_sub hl [0, 1, 2] rfl)

abbrev rm_X10_chance : Room := { frames := 2, cells := 0, slots := 0, locals := 46 }
def f_X10_chance_27 (s0 : Int32) (σ : Sta) : Option (Int32 × Sta) :=
  some (s0, σ)
set_option maxHeartbeats 4000000 in
set_option maxRecDepth 100000 in
theorem t_X10_chance_27 {l : Launch} {D : va_G} {Y : CYs} {E : Nat → Nat} {X : List Dsc} (hX : Lok (LM ++ X)) {p : Program} {e : Env} {s : State} {m : MethodId} {args : Array Value} {below : List Frame} {meth : Method} {c : Code} (hF : Fr p s m args meth c RX10 cX10_chance 2 (some .int) D Y E (LM ++ X)) {o : Int32 × Sta} : ∀ (s0 : Int32) (σ : Sta) (H : Heap) (locs : List Loc) (ls : Array Slot), f_X10_chance_27 s0 σ = some o → va_P D vwCl (wd Y E σ 0 (LM ++ X)) H → va_S (AF E (LM ++ X).length s.heap.size) s.heap H locs → lv_has ls 2 [] → WI p l e rm_X10_chance s m args below meth c (LM ++ X) Y D E o H locs (F0 m 27 ls [.int s0]) := by
  intro s0 σ H locs ls h hP hS hl
  unfold f_X10_chance_27 at h
  obtain ⟨hC, hb, hml, hr, hlk, hD, hSW⟩ := id hF
  have hx := hC.1
  exact x_iret hF hP hS h dX10_chance_27

def f_X10_chance (a1 : Int32) (σ : Sta) : Option (Int32 × Sta) :=
  lt (sI σ 0 0) (fun σ1 =>
  bnd (f_X10_isStrategy a1 σ1) (fun r2 σ3 =>
  if r2 = 0 then
    bnd (f_X10_fail 1 σ3) (fun r6 σ7 =>
    f_X10_chance_27 r6 σ7)
  else
    if a1 < 0 ∨ 22 ≤ (a1.toNatClampNeg) then none else (
    f_X10_chance_27 (gA σ3 34 (a1.toNatClampNeg)) σ3)))
set_option maxHeartbeats 4000000 in
set_option maxRecDepth 100000 in
theorem c_X10_chance {l : Launch} {D : va_G} {Y : CYs} {E : Nat → Nat} {X : List Dsc} (hX : Lok (LM ++ X)) {a1 : Int32} {σ : Sta} {o : Int32 × Sta} (h : f_X10_chance a1 σ = some o) : MI l yX10_chance (Cond.code yX10_chance cX10_chance 2 (some .int) :: gW) rm_X10_chance (LM ++ X) Y D E [.ref (E 0), .int a1] σ o := by
  intro sz
  refine Met_of (Qc := fun sz => QI (LM ++ X) Y D E sz o) (by decide) (Nat.le_of_ble_eq_true rfl) (fun p e s m args below meth c hF hP ls hl => ?_) sz
  have hS : va_S (AF E (LM ++ X).length s.heap.size) s.heap s.heap [] := va_S.rf
  have hl : lv_has ls 2 [(0, .ref (E 0)), (1, .int a1)] := hl
  show WI p l e rm_X10_chance s m args below meth c (LM ++ X) Y D E o s.heap [] (F0 m 0 ls [])
  unfold f_X10_chance at h
  obtain ⟨hC, hb, hml, hr, hlk, hD, hSW⟩ := id hF
  have hx := hC.1
  refine lv_aload_n hx hb dX10_chance_0 rfl (lv_at hl 0 rfl) ?_
  refine lv_iconst (v := 0) hx hb dX10_chance_1 (by decide) ?_
  refine pf_X10_140 hX hC hb hP hD hS dX10_chance_2 (fun H locs σ1 eσ1 hP hS => ?_)
  have h := of_lt h eσ1
  refine lv_aload_n hx hb dX10_chance_5 rfl (lv_at hl 0 rfl) ?_
  refine lv_iload_n hx hb dX10_chance_6 rfl (lv_at hl 1 rfl) ?_
  obtain ⟨r2, σ3, g4, h⟩ := of_bnd h
  refine x_VI (As := [.int a1]) (rest := []) hF hl hP hS (c_X10_isStrategy hX g4) (cw_X10_432 hC rfl rfl ⟨Nat.le_of_ble_eq_true rfl, Nat.le_of_ble_eq_true rfl⟩) (lm_0 X) rfl rfl rfl (Nat.le_of_ble_eq_true rfl) dX10_chance_7 ⟨Nat.zero_le _, Nat.zero_le _⟩ (fun H locs hP hS => ?_)
  refine lv_if_eq (tgt := 22) hx hb dX10_chance_10 (by decide) (fun c5 => ?_) (fun c5 => ?_)
  · have h := of_t h c5
    refine lv_aload_n hx hb dX10_chance_22 rfl (lv_at hl 0 rfl) ?_
    refine lv_iconst (v := 1) hx hb dX10_chance_23 (by decide) ?_
    obtain ⟨r6, σ7, g8, h⟩ := of_bnd h
    refine x_VI (As := [.int 1]) (rest := []) hF hl hP hS (c_X10_fail hX g8) (cw_X10_146 hC rfl rfl ⟨Nat.le_of_ble_eq_true rfl, Nat.le_of_ble_eq_true rfl⟩) (lm_0 X) rfl rfl rfl (Nat.le_of_ble_eq_true rfl) dX10_chance_24 ⟨Nat.zero_le _, Nat.zero_le _⟩ (fun H locs hP hS => ?_)
    exact t_X10_chance_27 hX  hF r6 σ7 _ _ _ h hP hS (lv_sub hl [] rfl)
  · have h := of_f h c5
    refine lv_aload_n hx hb dX10_chance_13 rfl (lv_at hl 0 rfl) ?_
    refine gf_X10_116 hC hb hP dX10_chance_14 ?_
    refine lv_iload_n hx hb dX10_chance_17 rfl (lv_at hl 1 rfl) ?_
    obtain ⟨g9, h⟩ := of_gd h
    refine x_iald hC hb hP (lm_34 X) g9 dX10_chance_18 ?_
    refine lv_goto (tgt := 27) hx hb dX10_chance_19 (by decide) ?_
    exact t_X10_chance_27 hX  hF (gA σ3 34 (a1.toNatClampNeg)) σ3 _ _ _ h hP hS (lv_sub hl [] rfl)

abbrev rm_X10_isBetter : Room := { frames := 0, cells := 0, slots := 0, locals := 0 }
def f_X10_isBetter_89 (k8 : Int32 → Int32 → Int32 → Int32 → Int32 → Sta → Option (Int32 × Sta)) (v1 : Int32) (v2 : Int32) (v3 : Int32) (v5 : Int32) (s0 : Int32) (σ : Sta) : Option (Int32 × Sta) :=
  lt (v5 + 1) (fun x1 =>
  k8 v1 v2 v3 s0 x1 σ)
set_option maxHeartbeats 4000000 in
set_option maxRecDepth 100000 in
theorem t_X10_isBetter_89 {l : Launch} {D : va_G} {Y : CYs} {E : Nat → Nat} {X : List Dsc} (hX : Lok (LM ++ X)) {p : Program} {e : Env} {s : State} {m : MethodId} {args : Array Value} {below : List Frame} {meth : Method} {c : Code} (hF : Fr p s m args meth c RX10 cX10_isBetter 6 (some .boolean) D Y E (LM ++ X)) {o : Int32 × Sta} (k8 : Int32 → Int32 → Int32 → Int32 → Int32 → Sta → Option (Int32 × Sta)) (hk8 : ∀ (v1 : Int32) (v2 : Int32) (v3 : Int32) (v4 : Int32) (v5 : Int32) (σ : Sta) (H : Heap) (locs : List Loc) (ls : Array Slot), k8 v1 v2 v3 v4 v5 σ = some o → va_P D vwCl (wd Y E σ 0 (LM ++ X)) H → va_S (AF E (LM ++ X).length s.heap.size) s.heap H locs → lv_has ls 6 [(0, .ref (E 0)), (1, .int v1), (2, .int v2), (3, .int v3), (4, .int v4), (5, .int v5)] → WI p l e rm_X10_isBetter s m args below meth c (LM ++ X) Y D E o H locs (F0 m 8 ls [])) : ∀ (v1 : Int32) (v2 : Int32) (v3 : Int32) (v5 : Int32) (s0 : Int32) (σ : Sta) (H : Heap) (locs : List Loc) (ls : Array Slot), f_X10_isBetter_89 k8 v1 v2 v3 v5 s0 σ = some o → va_P D vwCl (wd Y E σ 0 (LM ++ X)) H → va_S (AF E (LM ++ X).length s.heap.size) s.heap H locs → lv_has ls 6 [(0, .ref (E 0)), (1, .int v1), (2, .int v2), (3, .int v3), (5, .int v5)] → WI p l e rm_X10_isBetter s m args below meth c (LM ++ X) Y D E o H locs (F0 m 89 ls [.int s0]) := by
  intro v1 v2 v3 v5 s0 σ H locs ls h hP hS hl
  unfold f_X10_isBetter_89 at h
  obtain ⟨hC, hb, hml, hr, hlk, hD, hSW⟩ := id hF
  have hx := hC.1
  refine lv_istore (lv' := [(4, .int s0), (0, .ref (E 0)), (1, .int v1), (2, .int v2), (3, .int v3), (5, .int v5)]) hx hb dX10_isBetter_89 hl (by decide) rfl (fun ls hl => ?_)
  obtain ⟨x1, ex1⟩ : ∃ y : Int32, y = v5 + 1 := ⟨_, rfl⟩
  have h := of_lt h ex1
  refine lv_iinc (v := x1) (lv' := [(5, .int x1), (4, .int s0), (0, .ref (E 0)), (1, .int v1), (2, .int v2), (3, .int v3)]) hx hb dX10_isBetter_91 hl (k := 5) rfl (by rw [ex1]; rfl) (by decide) rfl (fun ls hl => ?_)
  refine lv_goto (tgt := 8) hx hb dX10_isBetter_94 (by decide) ?_
  exact hk8 v1 v2 v3 s0 x1 σ _ _ _ h hP hS (lv_sub hl [2, 3, 4, 5, 1, 0] rfl)

def f_X10_isBetter_88 (k8 : Int32 → Int32 → Int32 → Int32 → Int32 → Sta → Option (Int32 × Sta)) (v1 : Int32) (v2 : Int32) (v3 : Int32) (v5 : Int32) (σ : Sta) : Option (Int32 × Sta) :=
  f_X10_isBetter_89 k8 v1 v2 v3 v5 0 σ
set_option maxHeartbeats 4000000 in
set_option maxRecDepth 100000 in
theorem t_X10_isBetter_88 {l : Launch} {D : va_G} {Y : CYs} {E : Nat → Nat} {X : List Dsc} (hX : Lok (LM ++ X)) {p : Program} {e : Env} {s : State} {m : MethodId} {args : Array Value} {below : List Frame} {meth : Method} {c : Code} (hF : Fr p s m args meth c RX10 cX10_isBetter 6 (some .boolean) D Y E (LM ++ X)) {o : Int32 × Sta} (k8 : Int32 → Int32 → Int32 → Int32 → Int32 → Sta → Option (Int32 × Sta)) (hk8 : ∀ (v1 : Int32) (v2 : Int32) (v3 : Int32) (v4 : Int32) (v5 : Int32) (σ : Sta) (H : Heap) (locs : List Loc) (ls : Array Slot), k8 v1 v2 v3 v4 v5 σ = some o → va_P D vwCl (wd Y E σ 0 (LM ++ X)) H → va_S (AF E (LM ++ X).length s.heap.size) s.heap H locs → lv_has ls 6 [(0, .ref (E 0)), (1, .int v1), (2, .int v2), (3, .int v3), (4, .int v4), (5, .int v5)] → WI p l e rm_X10_isBetter s m args below meth c (LM ++ X) Y D E o H locs (F0 m 8 ls [])) : ∀ (v1 : Int32) (v2 : Int32) (v3 : Int32) (v5 : Int32) (σ : Sta) (H : Heap) (locs : List Loc) (ls : Array Slot), f_X10_isBetter_88 k8 v1 v2 v3 v5 σ = some o → va_P D vwCl (wd Y E σ 0 (LM ++ X)) H → va_S (AF E (LM ++ X).length s.heap.size) s.heap H locs → lv_has ls 6 [(0, .ref (E 0)), (1, .int v1), (2, .int v2), (3, .int v3), (5, .int v5)] → WI p l e rm_X10_isBetter s m args below meth c (LM ++ X) Y D E o H locs (F0 m 88 ls []) := by
  intro v1 v2 v3 v5 σ H locs ls h hP hS hl
  unfold f_X10_isBetter_88 at h
  obtain ⟨hC, hb, hml, hr, hlk, hD, hSW⟩ := id hF
  have hx := hC.1
  refine lv_iconst (v := 0) hx hb dX10_isBetter_88 (by decide) ?_
  exact t_X10_isBetter_89 hX  hF k8 hk8 v1 v2 v3 v5 0 σ _ _ _ h hP hS (lv_sub hl [0, 1, 2, 3, 4] rfl)

def f_X10_isBetter_52 (k8 : Int32 → Int32 → Int32 → Int32 → Int32 → Sta → Option (Int32 × Sta)) (v1 : Int32) (v2 : Int32) (v4 : Int32) (v5 : Int32) (s0 : Int32) (σ : Sta) : Option (Int32 × Sta) :=
  if v4 = 0 then
    f_X10_isBetter_88 k8 v1 v2 s0 v5 σ
  else
    if (3 * v1) + v5 < 0 ∨ 66 ≤ (((3 * v1) + v5).toNatClampNeg) then none else (
    if (3 * v2) + v5 < 0 ∨ 66 ≤ (((3 * v2) + v5).toNatClampNeg) then none else (
    if lg_cmp (gJ σ 33 (((3 * v1) + v5).toNatClampNeg)) (gJ σ 33 (((3 * v2) + v5).toNatClampNeg)) < 0 then
      f_X10_isBetter_88 k8 v1 v2 s0 v5 σ
    else
      f_X10_isBetter_89 k8 v1 v2 s0 v5 1 σ))
set_option maxHeartbeats 4000000 in
set_option maxRecDepth 100000 in
theorem t_X10_isBetter_52 {l : Launch} {D : va_G} {Y : CYs} {E : Nat → Nat} {X : List Dsc} (hX : Lok (LM ++ X)) {p : Program} {e : Env} {s : State} {m : MethodId} {args : Array Value} {below : List Frame} {meth : Method} {c : Code} (hF : Fr p s m args meth c RX10 cX10_isBetter 6 (some .boolean) D Y E (LM ++ X)) {o : Int32 × Sta} (k8 : Int32 → Int32 → Int32 → Int32 → Int32 → Sta → Option (Int32 × Sta)) (hk8 : ∀ (v1 : Int32) (v2 : Int32) (v3 : Int32) (v4 : Int32) (v5 : Int32) (σ : Sta) (H : Heap) (locs : List Loc) (ls : Array Slot), k8 v1 v2 v3 v4 v5 σ = some o → va_P D vwCl (wd Y E σ 0 (LM ++ X)) H → va_S (AF E (LM ++ X).length s.heap.size) s.heap H locs → lv_has ls 6 [(0, .ref (E 0)), (1, .int v1), (2, .int v2), (3, .int v3), (4, .int v4), (5, .int v5)] → WI p l e rm_X10_isBetter s m args below meth c (LM ++ X) Y D E o H locs (F0 m 8 ls [])) : ∀ (v1 : Int32) (v2 : Int32) (v4 : Int32) (v5 : Int32) (s0 : Int32) (σ : Sta) (H : Heap) (locs : List Loc) (ls : Array Slot), f_X10_isBetter_52 k8 v1 v2 v4 v5 s0 σ = some o → va_P D vwCl (wd Y E σ 0 (LM ++ X)) H → va_S (AF E (LM ++ X).length s.heap.size) s.heap H locs → lv_has ls 6 [(0, .ref (E 0)), (1, .int v1), (2, .int v2), (4, .int v4), (5, .int v5)] → WI p l e rm_X10_isBetter s m args below meth c (LM ++ X) Y D E o H locs (F0 m 52 ls [.int s0]) := by
  intro v1 v2 v4 v5 s0 σ H locs ls h hP hS hl
  unfold f_X10_isBetter_52 at h
  obtain ⟨hC, hb, hml, hr, hlk, hD, hSW⟩ := id hF
  have hx := hC.1
  refine lv_istore_n (lv' := [(3, .int s0), (0, .ref (E 0)), (1, .int v1), (2, .int v2), (4, .int v4), (5, .int v5)]) hx hb dX10_isBetter_52 rfl hl (by decide) rfl (fun ls hl => ?_)
  refine lv_iload hx hb dX10_isBetter_53 (lv_at hl 4 rfl) ?_
  refine lv_if_eq (tgt := 88) hx hb dX10_isBetter_55 (by decide) (fun c1 => ?_) (fun c1 => ?_)
  · have h := of_t h c1
    exact t_X10_isBetter_88 hX  hF k8 hk8 v1 v2 s0 v5 σ _ _ _ h hP hS (lv_sub hl [1, 2, 3, 0, 5] rfl)
  · have h := of_f h c1
    refine lv_aload_n hx hb dX10_isBetter_58 rfl (lv_at hl 1 rfl) ?_
    refine gf_X10_113 hC hb hP dX10_isBetter_59 ?_
    refine lv_iconst (v := 3) hx hb dX10_isBetter_62 (by decide) ?_
    refine lv_iload_n hx hb dX10_isBetter_63 rfl (lv_at hl 2 rfl) ?_
    refine lv_imul hx hb dX10_isBetter_64 ?_
    refine lv_iload hx hb dX10_isBetter_65 (lv_at hl 5 rfl) ?_
    refine lv_iadd hx hb dX10_isBetter_67 ?_
    obtain ⟨g2, h⟩ := of_gd h
    refine x_lald hC hb hP (lm_33 X) g2 dX10_isBetter_68 ?_
    refine lv_aload_n hx hb dX10_isBetter_69 rfl (lv_at hl 1 rfl) ?_
    refine gf_X10_113 hC hb hP dX10_isBetter_70 ?_
    refine lv_iconst (v := 3) hx hb dX10_isBetter_73 (by decide) ?_
    refine lv_iload_n hx hb dX10_isBetter_74 rfl (lv_at hl 3 rfl) ?_
    refine lv_imul hx hb dX10_isBetter_75 ?_
    refine lv_iload hx hb dX10_isBetter_76 (lv_at hl 5 rfl) ?_
    refine lv_iadd hx hb dX10_isBetter_78 ?_
    obtain ⟨g3, h⟩ := of_gd h
    refine x_lald hC hb hP (lm_33 X) g3 dX10_isBetter_79 ?_
    refine W.lcmp hx hb dX10_isBetter_80 ?_
    refine lv_if_lt (tgt := 88) hx hb dX10_isBetter_81 (by decide) (fun c4 => ?_) (fun c4 => ?_)
    · have h := of_t h c4
      exact t_X10_isBetter_88 hX  hF k8 hk8 v1 v2 s0 v5 σ _ _ _ h hP hS (lv_sub hl [1, 2, 3, 0, 5] rfl)
    · have h := of_f h c4
      refine lv_iconst (v := 1) hx hb dX10_isBetter_84 (by decide) ?_
      refine lv_goto (tgt := 89) hx hb dX10_isBetter_85 (by decide) ?_
      exact t_X10_isBetter_89 hX  hF k8 hk8 v1 v2 s0 v5 1 σ _ _ _ h hP hS (lv_sub hl [1, 2, 3, 0, 5] rfl)

def f_X10_isBetter_47 (k8 : Int32 → Int32 → Int32 → Int32 → Int32 → Sta → Option (Int32 × Sta)) (v1 : Int32) (v2 : Int32) (v4 : Int32) (v5 : Int32) (σ : Sta) : Option (Int32 × Sta) :=
  f_X10_isBetter_52 k8 v1 v2 v4 v5 1 σ
set_option maxHeartbeats 4000000 in
set_option maxRecDepth 100000 in
theorem t_X10_isBetter_47 {l : Launch} {D : va_G} {Y : CYs} {E : Nat → Nat} {X : List Dsc} (hX : Lok (LM ++ X)) {p : Program} {e : Env} {s : State} {m : MethodId} {args : Array Value} {below : List Frame} {meth : Method} {c : Code} (hF : Fr p s m args meth c RX10 cX10_isBetter 6 (some .boolean) D Y E (LM ++ X)) {o : Int32 × Sta} (k8 : Int32 → Int32 → Int32 → Int32 → Int32 → Sta → Option (Int32 × Sta)) (hk8 : ∀ (v1 : Int32) (v2 : Int32) (v3 : Int32) (v4 : Int32) (v5 : Int32) (σ : Sta) (H : Heap) (locs : List Loc) (ls : Array Slot), k8 v1 v2 v3 v4 v5 σ = some o → va_P D vwCl (wd Y E σ 0 (LM ++ X)) H → va_S (AF E (LM ++ X).length s.heap.size) s.heap H locs → lv_has ls 6 [(0, .ref (E 0)), (1, .int v1), (2, .int v2), (3, .int v3), (4, .int v4), (5, .int v5)] → WI p l e rm_X10_isBetter s m args below meth c (LM ++ X) Y D E o H locs (F0 m 8 ls [])) : ∀ (v1 : Int32) (v2 : Int32) (v4 : Int32) (v5 : Int32) (σ : Sta) (H : Heap) (locs : List Loc) (ls : Array Slot), f_X10_isBetter_47 k8 v1 v2 v4 v5 σ = some o → va_P D vwCl (wd Y E σ 0 (LM ++ X)) H → va_S (AF E (LM ++ X).length s.heap.size) s.heap H locs → lv_has ls 6 [(0, .ref (E 0)), (1, .int v1), (2, .int v2), (4, .int v4), (5, .int v5)] → WI p l e rm_X10_isBetter s m args below meth c (LM ++ X) Y D E o H locs (F0 m 47 ls []) := by
  intro v1 v2 v4 v5 σ H locs ls h hP hS hl
  unfold f_X10_isBetter_47 at h
  obtain ⟨hC, hb, hml, hr, hlk, hD, hSW⟩ := id hF
  have hx := hC.1
  refine lv_iconst (v := 1) hx hb dX10_isBetter_47 (by decide) ?_
  refine lv_goto (tgt := 52) hx hb dX10_isBetter_48 (by decide) ?_
  exact t_X10_isBetter_52 hX  hF k8 hk8 v1 v2 v4 v5 1 σ _ _ _ h hP hS (lv_sub hl [0, 1, 2, 3, 4] rfl)

def f_X10_isBetter_111 (s0 : Int32) (σ : Sta) : Option (Int32 × Sta) :=
  if ¬ (s0 = 0 ∨ s0 = 1) then none else (
  some (s0, σ))
set_option maxHeartbeats 4000000 in
set_option maxRecDepth 100000 in
theorem t_X10_isBetter_111 {l : Launch} {D : va_G} {Y : CYs} {E : Nat → Nat} {X : List Dsc} (hX : Lok (LM ++ X)) {p : Program} {e : Env} {s : State} {m : MethodId} {args : Array Value} {below : List Frame} {meth : Method} {c : Code} (hF : Fr p s m args meth c RX10 cX10_isBetter 6 (some .boolean) D Y E (LM ++ X)) {o : Int32 × Sta} : ∀ (s0 : Int32) (σ : Sta) (H : Heap) (locs : List Loc) (ls : Array Slot), f_X10_isBetter_111 s0 σ = some o → va_P D vwCl (wd Y E σ 0 (LM ++ X)) H → va_S (AF E (LM ++ X).length s.heap.size) s.heap H locs → lv_has ls 6 [] → WI p l e rm_X10_isBetter s m args below meth c (LM ++ X) Y D E o H locs (F0 m 111 ls [.int s0]) := by
  intro s0 σ H locs ls h hP hS hl
  unfold f_X10_isBetter_111 at h
  obtain ⟨hC, hb, hml, hr, hlk, hD, hSW⟩ := id hF
  have hx := hC.1
  obtain ⟨g1, h⟩ := of_gd h
  exact x_zret hF hP hS (zb g1) h dX10_isBetter_111

def f_X10_isBetter_110 (σ : Sta) : Option (Int32 × Sta) :=
  f_X10_isBetter_111 0 σ
set_option maxHeartbeats 4000000 in
set_option maxRecDepth 100000 in
theorem t_X10_isBetter_110 {l : Launch} {D : va_G} {Y : CYs} {E : Nat → Nat} {X : List Dsc} (hX : Lok (LM ++ X)) {p : Program} {e : Env} {s : State} {m : MethodId} {args : Array Value} {below : List Frame} {meth : Method} {c : Code} (hF : Fr p s m args meth c RX10 cX10_isBetter 6 (some .boolean) D Y E (LM ++ X)) {o : Int32 × Sta} : ∀ (σ : Sta) (H : Heap) (locs : List Loc) (ls : Array Slot), f_X10_isBetter_110 σ = some o → va_P D vwCl (wd Y E σ 0 (LM ++ X)) H → va_S (AF E (LM ++ X).length s.heap.size) s.heap H locs → lv_has ls 6 [] → WI p l e rm_X10_isBetter s m args below meth c (LM ++ X) Y D E o H locs (F0 m 110 ls []) := by
  intro σ H locs ls h hP hS hl
  unfold f_X10_isBetter_110 at h
  obtain ⟨hC, hb, hml, hr, hlk, hD, hSW⟩ := id hF
  have hx := hC.1
  refine lv_iconst (v := 0) hx hb dX10_isBetter_110 (by decide) ?_
  exact t_X10_isBetter_111 hX  hF 0 σ _ _ _ h hP hS (lv_sub hl [] rfl)

def f_X10_isBetter_8 : Nat → Int32 → Int32 → Int32 → Int32 → Int32 → Sta → Option (Int32 × Sta)
  | 0, _, _, _, _, _, _ => none
  | n + 1, v1, v2, v3, v4, v5, σ => if gI σ 15 ≤ v5 then
      if v3 = 0 then
        f_X10_isBetter_110 σ
      else
        if v4 = 0 then
          f_X10_isBetter_110 σ
        else
          f_X10_isBetter_111 1 σ
    else
      if v3 = 0 then
        if (3 * v1) + v5 < 0 ∨ 66 ≤ (((3 * v1) + v5).toNatClampNeg) then none else (
        if (3 * v2) + v5 < 0 ∨ 66 ≤ (((3 * v2) + v5).toNatClampNeg) then none else (
        if lg_cmp (gJ σ 33 (((3 * v1) + v5).toNatClampNeg)) (gJ σ 33 (((3 * v2) + v5).toNatClampNeg)) ≤ 0 then
          f_X10_isBetter_52 (f_X10_isBetter_8 n) v1 v2 v4 v5 0 σ
        else
          f_X10_isBetter_47 (f_X10_isBetter_8 n) v1 v2 v4 v5 σ))
      else
        f_X10_isBetter_47 (f_X10_isBetter_8 n) v1 v2 v4 v5 σ
set_option maxHeartbeats 4000000 in
set_option maxRecDepth 100000 in
theorem t_X10_isBetter_8 {l : Launch} {D : va_G} {Y : CYs} {E : Nat → Nat} {X : List Dsc} (hX : Lok (LM ++ X)) {p : Program} {e : Env} {s : State} {m : MethodId} {args : Array Value} {below : List Frame} {meth : Method} {c : Code} (hF : Fr p s m args meth c RX10 cX10_isBetter 6 (some .boolean) D Y E (LM ++ X)) {o : Int32 × Sta} : ∀ (n : Nat) (v1 : Int32) (v2 : Int32) (v3 : Int32) (v4 : Int32) (v5 : Int32) (σ : Sta) (H : Heap) (locs : List Loc) (ls : Array Slot), f_X10_isBetter_8 n v1 v2 v3 v4 v5 σ = some o → va_P D vwCl (wd Y E σ 0 (LM ++ X)) H → va_S (AF E (LM ++ X).length s.heap.size) s.heap H locs → lv_has ls 6 [(0, .ref (E 0)), (1, .int v1), (2, .int v2), (3, .int v3), (4, .int v4), (5, .int v5)] → WI p l e rm_X10_isBetter s m args below meth c (LM ++ X) Y D E o H locs (F0 m 8 ls []) := by
  intro n
  induction n with
  | zero =>
    intro v1 v2 v3 v4 v5 σ H locs ls h hP hS hl
    exact nomatch (show (none : Option (Int32 × Sta)) = some o from h)
  | succ n ih =>
    intro v1 v2 v3 v4 v5 σ H locs ls h hP hS hl
    rw [f_X10_isBetter_8] at h
    obtain ⟨hC, hb, hml, hr, hlk, hD, hSW⟩ := id hF
    have hx := hC.1
    refine lv_iload hx hb dX10_isBetter_8 (lv_at hl 5 rfl) ?_
    refine lv_aload_n hx hb dX10_isBetter_10 rfl (lv_at hl 0 rfl) ?_
    refine gf_X10_201 hC hb hP dX10_isBetter_11 ?_
    refine lv_icmp_ge (tgt := 97) hx hb dX10_isBetter_14 (by decide) (fun c1 => ?_) (fun c1 => ?_)
    · have h := of_t h c1
      refine lv_iload_n hx hb dX10_isBetter_97 rfl (lv_at hl 3 rfl) ?_
      refine lv_if_eq (tgt := 110) hx hb dX10_isBetter_98 (by decide) (fun c2 => ?_) (fun c2 => ?_)
      · have h := of_t h c2
        exact t_X10_isBetter_110 hX  hF σ _ _ _ h hP hS (lv_sub hl [] rfl)
      · have h := of_f h c2
        refine lv_iload hx hb dX10_isBetter_101 (lv_at hl 4 rfl) ?_
        refine lv_if_eq (tgt := 110) hx hb dX10_isBetter_103 (by decide) (fun c3 => ?_) (fun c3 => ?_)
        · have h := of_t h c3
          exact t_X10_isBetter_110 hX  hF σ _ _ _ h hP hS (lv_sub hl [] rfl)
        · have h := of_f h c3
          refine lv_iconst (v := 1) hx hb dX10_isBetter_106 (by decide) ?_
          refine lv_goto (tgt := 111) hx hb dX10_isBetter_107 (by decide) ?_
          exact t_X10_isBetter_111 hX  hF 1 σ _ _ _ h hP hS (lv_sub hl [] rfl)
    · have h := of_f h c1
      refine lv_iload_n hx hb dX10_isBetter_17 rfl (lv_at hl 3 rfl) ?_
      refine lv_if_ne (tgt := 47) hx hb dX10_isBetter_18 (by decide) (fun c4 => ?_) (fun c4 => ?_)
      · have h := of_f h c4
        exact t_X10_isBetter_47 hX  hF (f_X10_isBetter_8 n) ih v1 v2 v4 v5 σ _ _ _ h hP hS (lv_sub hl [0, 1, 2, 4, 5] rfl)
      · have h := of_t h c4
        refine lv_aload_n hx hb dX10_isBetter_21 rfl (lv_at hl 0 rfl) ?_
        refine gf_X10_113 hC hb hP dX10_isBetter_22 ?_
        refine lv_iconst (v := 3) hx hb dX10_isBetter_25 (by decide) ?_
        refine lv_iload_n hx hb dX10_isBetter_26 rfl (lv_at hl 1 rfl) ?_
        refine lv_imul hx hb dX10_isBetter_27 ?_
        refine lv_iload hx hb dX10_isBetter_28 (lv_at hl 5 rfl) ?_
        refine lv_iadd hx hb dX10_isBetter_30 ?_
        obtain ⟨g5, h⟩ := of_gd h
        refine x_lald hC hb hP (lm_33 X) g5 dX10_isBetter_31 ?_
        refine lv_aload_n hx hb dX10_isBetter_32 rfl (lv_at hl 0 rfl) ?_
        refine gf_X10_113 hC hb hP dX10_isBetter_33 ?_
        refine lv_iconst (v := 3) hx hb dX10_isBetter_36 (by decide) ?_
        refine lv_iload_n hx hb dX10_isBetter_37 rfl (lv_at hl 2 rfl) ?_
        refine lv_imul hx hb dX10_isBetter_38 ?_
        refine lv_iload hx hb dX10_isBetter_39 (lv_at hl 5 rfl) ?_
        refine lv_iadd hx hb dX10_isBetter_41 ?_
        obtain ⟨g6, h⟩ := of_gd h
        refine x_lald hC hb hP (lm_33 X) g6 dX10_isBetter_42 ?_
        refine W.lcmp hx hb dX10_isBetter_43 ?_
        refine lv_if_le (tgt := 51) hx hb dX10_isBetter_44 (by decide) (fun c7 => ?_) (fun c7 => ?_)
        · have h := of_t h c7
          refine lv_iconst (v := 0) hx hb dX10_isBetter_51 (by decide) ?_
          exact t_X10_isBetter_52 hX  hF (f_X10_isBetter_8 n) ih v1 v2 v4 v5 0 σ _ _ _ h hP hS (lv_sub hl [0, 1, 2, 4, 5] rfl)
        · have h := of_f h c7
          exact t_X10_isBetter_47 hX  hF (f_X10_isBetter_8 n) ih v1 v2 v4 v5 σ _ _ _ h hP hS (lv_sub hl [0, 1, 2, 4, 5] rfl)

def f_X10_isBetter (a1 : Int32) (a2 : Int32) (σ : Sta) : Option (Int32 × Sta) :=
  f_X10_isBetter_8 FU a1 a2 0 1 0 σ
set_option maxHeartbeats 4000000 in
set_option maxRecDepth 100000 in
theorem c_X10_isBetter {l : Launch} {D : va_G} {Y : CYs} {E : Nat → Nat} {X : List Dsc} (hX : Lok (LM ++ X)) {a1 : Int32} {a2 : Int32} {σ : Sta} {o : Int32 × Sta} (h : f_X10_isBetter a1 a2 σ = some o) : MI l yX10_isBetter (Cond.code yX10_isBetter cX10_isBetter 6 (some .boolean) :: gW) rm_X10_isBetter (LM ++ X) Y D E [.ref (E 0), .int a1, .int a2] σ o := by
  intro sz
  refine Met_of (Qc := fun sz => QI (LM ++ X) Y D E sz o) (by decide) (Nat.le_of_ble_eq_true rfl) (fun p e s m args below meth c hF hP ls hl => ?_) sz
  have hS : va_S (AF E (LM ++ X).length s.heap.size) s.heap s.heap [] := va_S.rf
  have hl : lv_has ls 6 [(0, .ref (E 0)), (1, .int a1), (2, .int a2)] := hl
  show WI p l e rm_X10_isBetter s m args below meth c (LM ++ X) Y D E o s.heap [] (F0 m 0 ls [])
  unfold f_X10_isBetter at h
  obtain ⟨hC, hb, hml, hr, hlk, hD, hSW⟩ := id hF
  have hx := hC.1
  refine lv_iconst (v := 0) hx hb dX10_isBetter_0 (by decide) ?_
  refine lv_istore_n (lv' := [(3, .int 0), (0, .ref (E 0)), (1, .int a1), (2, .int a2)]) hx hb dX10_isBetter_1 rfl hl (by decide) rfl (fun ls hl => ?_)
  refine lv_iconst (v := 1) hx hb dX10_isBetter_2 (by decide) ?_
  refine lv_istore (lv' := [(4, .int 1), (3, .int 0), (0, .ref (E 0)), (1, .int a1), (2, .int a2)]) hx hb dX10_isBetter_3 hl (by decide) rfl (fun ls hl => ?_)
  refine lv_iconst (v := 0) hx hb dX10_isBetter_5 (by decide) ?_
  refine lv_istore (lv' := [(5, .int 0), (4, .int 1), (3, .int 0), (0, .ref (E 0)), (1, .int a1), (2, .int a2)]) hx hb dX10_isBetter_6 hl (by decide) rfl (fun ls hl => ?_)
  exact t_X10_isBetter_8 hX  hF FU a1 a2 0 1 0 σ _ _ _ h hP hS (lv_sub hl [3, 4, 5, 2, 1, 0] rfl)

abbrev rm_X10_isWorthHaving : Room := { frames := 2, cells := 0, slots := 0, locals := 46 }
def f_X10_isWorthHaving_58 (k32 : Int32 → Int32 → Int32 → Sta → Option (Int32 × Sta)) (v1 : Int32) (v3 : Int32) (s0 : Int32) (σ : Sta) : Option (Int32 × Sta) :=
  lt (v3 + 1) (fun x1 =>
  k32 v1 s0 x1 σ)
set_option maxHeartbeats 4000000 in
set_option maxRecDepth 100000 in
theorem t_X10_isWorthHaving_58 {l : Launch} {D : va_G} {Y : CYs} {E : Nat → Nat} {X : List Dsc} (hX : Lok (LM ++ X)) {p : Program} {e : Env} {s : State} {m : MethodId} {args : Array Value} {below : List Frame} {meth : Method} {c : Code} (hF : Fr p s m args meth c RX10 cX10_isWorthHaving 4 (some .boolean) D Y E (LM ++ X)) {o : Int32 × Sta} (k32 : Int32 → Int32 → Int32 → Sta → Option (Int32 × Sta)) (hk32 : ∀ (v1 : Int32) (v2 : Int32) (v3 : Int32) (σ : Sta) (H : Heap) (locs : List Loc) (ls : Array Slot), k32 v1 v2 v3 σ = some o → va_P D vwCl (wd Y E σ 0 (LM ++ X)) H → va_S (AF E (LM ++ X).length s.heap.size) s.heap H locs → lv_has ls 4 [(0, .ref (E 0)), (1, .int v1), (2, .int v2), (3, .int v3)] → WI p l e rm_X10_isWorthHaving s m args below meth c (LM ++ X) Y D E o H locs (F0 m 32 ls [])) : ∀ (v1 : Int32) (v3 : Int32) (s0 : Int32) (σ : Sta) (H : Heap) (locs : List Loc) (ls : Array Slot), f_X10_isWorthHaving_58 k32 v1 v3 s0 σ = some o → va_P D vwCl (wd Y E σ 0 (LM ++ X)) H → va_S (AF E (LM ++ X).length s.heap.size) s.heap H locs → lv_has ls 4 [(0, .ref (E 0)), (1, .int v1), (3, .int v3)] → WI p l e rm_X10_isWorthHaving s m args below meth c (LM ++ X) Y D E o H locs (F0 m 58 ls [.int s0]) := by
  intro v1 v3 s0 σ H locs ls h hP hS hl
  unfold f_X10_isWorthHaving_58 at h
  obtain ⟨hC, hb, hml, hr, hlk, hD, hSW⟩ := id hF
  have hx := hC.1
  refine lv_istore_n (lv' := [(2, .int s0), (0, .ref (E 0)), (1, .int v1), (3, .int v3)]) hx hb dX10_isWorthHaving_58 rfl hl (by decide) rfl (fun ls hl => ?_)
  obtain ⟨x1, ex1⟩ : ∃ y : Int32, y = v3 + 1 := ⟨_, rfl⟩
  have h := of_lt h ex1
  refine lv_iinc (v := x1) (lv' := [(3, .int x1), (2, .int s0), (0, .ref (E 0)), (1, .int v1)]) hx hb dX10_isWorthHaving_59 hl (k := 3) rfl (by rw [ex1]; rfl) (by decide) rfl (fun ls hl => ?_)
  refine lv_goto (tgt := 32) hx hb dX10_isWorthHaving_62 (by decide) ?_
  exact hk32 v1 s0 x1 σ _ _ _ h hP hS (lv_sub hl [2, 3, 1, 0] rfl)

def f_X10_isWorthHaving_65 (v2 : Int32) (σ : Sta) : Option (Int32 × Sta) :=
  if ¬ (v2 = 0 ∨ v2 = 1) then none else (
  some (v2, σ))
set_option maxHeartbeats 4000000 in
set_option maxRecDepth 100000 in
theorem t_X10_isWorthHaving_65 {l : Launch} {D : va_G} {Y : CYs} {E : Nat → Nat} {X : List Dsc} (hX : Lok (LM ++ X)) {p : Program} {e : Env} {s : State} {m : MethodId} {args : Array Value} {below : List Frame} {meth : Method} {c : Code} (hF : Fr p s m args meth c RX10 cX10_isWorthHaving 4 (some .boolean) D Y E (LM ++ X)) {o : Int32 × Sta} : ∀ (v2 : Int32) (σ : Sta) (H : Heap) (locs : List Loc) (ls : Array Slot), f_X10_isWorthHaving_65 v2 σ = some o → va_P D vwCl (wd Y E σ 0 (LM ++ X)) H → va_S (AF E (LM ++ X).length s.heap.size) s.heap H locs → lv_has ls 4 [(2, .int v2)] → WI p l e rm_X10_isWorthHaving s m args below meth c (LM ++ X) Y D E o H locs (F0 m 65 ls []) := by
  intro v2 σ H locs ls h hP hS hl
  unfold f_X10_isWorthHaving_65 at h
  obtain ⟨hC, hb, hml, hr, hlk, hD, hSW⟩ := id hF
  have hx := hC.1
  refine lv_iload_n hx hb dX10_isWorthHaving_65 rfl (lv_at hl 0 rfl) ?_
  obtain ⟨g1, h⟩ := of_gd h
  exact x_zret hF hP hS (zb g1) h dX10_isWorthHaving_66

def f_X10_isWorthHaving_32 : Nat → Int32 → Int32 → Int32 → Sta → Option (Int32 × Sta)
  | 0, _, _, _, _ => none
  | n + 1, v1, v2, v3, σ => if gI σ 47 ≤ v3 then
      f_X10_isWorthHaving_65 v2 σ
    else
      if v2 = 0 then
        f_X10_isWorthHaving_65 v2 σ
      else
        bnd (f_X10_isBetter v3 v1 σ) (fun r3 σ4 =>
        if r3 = 0 then
          f_X10_isWorthHaving_58 (f_X10_isWorthHaving_32 n) v1 v3 1 σ4
        else
          f_X10_isWorthHaving_58 (f_X10_isWorthHaving_32 n) v1 v3 0 σ4)
set_option maxHeartbeats 4000000 in
set_option maxRecDepth 100000 in
theorem t_X10_isWorthHaving_32 {l : Launch} {D : va_G} {Y : CYs} {E : Nat → Nat} {X : List Dsc} (hX : Lok (LM ++ X)) {p : Program} {e : Env} {s : State} {m : MethodId} {args : Array Value} {below : List Frame} {meth : Method} {c : Code} (hF : Fr p s m args meth c RX10 cX10_isWorthHaving 4 (some .boolean) D Y E (LM ++ X)) {o : Int32 × Sta} : ∀ (n : Nat) (v1 : Int32) (v2 : Int32) (v3 : Int32) (σ : Sta) (H : Heap) (locs : List Loc) (ls : Array Slot), f_X10_isWorthHaving_32 n v1 v2 v3 σ = some o → va_P D vwCl (wd Y E σ 0 (LM ++ X)) H → va_S (AF E (LM ++ X).length s.heap.size) s.heap H locs → lv_has ls 4 [(0, .ref (E 0)), (1, .int v1), (2, .int v2), (3, .int v3)] → WI p l e rm_X10_isWorthHaving s m args below meth c (LM ++ X) Y D E o H locs (F0 m 32 ls []) := by
  intro n
  induction n with
  | zero =>
    intro v1 v2 v3 σ H locs ls h hP hS hl
    exact nomatch (show (none : Option (Int32 × Sta)) = some o from h)
  | succ n ih =>
    intro v1 v2 v3 σ H locs ls h hP hS hl
    rw [f_X10_isWorthHaving_32] at h
    obtain ⟨hC, hb, hml, hr, hlk, hD, hSW⟩ := id hF
    have hx := hC.1
    refine lv_iload_n hx hb dX10_isWorthHaving_32 rfl (lv_at hl 3 rfl) ?_
    refine lv_aload_n hx hb dX10_isWorthHaving_33 rfl (lv_at hl 0 rfl) ?_
    refine gf_X10_216 hC hb hP dX10_isWorthHaving_34 ?_
    refine lv_icmp_ge (tgt := 65) hx hb dX10_isWorthHaving_37 (by decide) (fun c1 => ?_) (fun c1 => ?_)
    · have h := of_t h c1
      exact t_X10_isWorthHaving_65 hX  hF v2 σ _ _ _ h hP hS (lv_sub hl [2] rfl)
    · have h := of_f h c1
      refine lv_iload_n hx hb dX10_isWorthHaving_40 rfl (lv_at hl 2 rfl) ?_
      refine lv_if_eq (tgt := 65) hx hb dX10_isWorthHaving_41 (by decide) (fun c2 => ?_) (fun c2 => ?_)
      · have h := of_t h c2
        exact t_X10_isWorthHaving_65 hX  hF v2 σ _ _ _ h hP hS (lv_sub hl [2] rfl)
      · have h := of_f h c2
        refine lv_aload_n hx hb dX10_isWorthHaving_44 rfl (lv_at hl 0 rfl) ?_
        refine lv_iload_n hx hb dX10_isWorthHaving_45 rfl (lv_at hl 3 rfl) ?_
        refine lv_iload_n hx hb dX10_isWorthHaving_46 rfl (lv_at hl 1 rfl) ?_
        obtain ⟨r3, σ4, g5, h⟩ := of_bnd h
        refine x_VI (As := [.int v3, .int v1]) (rest := []) hF hl hP hS (c_X10_isBetter hX g5) (cw_X10_435 hC rfl rfl ⟨Nat.le_of_ble_eq_true rfl, Nat.le_of_ble_eq_true rfl⟩) (lm_0 X) rfl rfl rfl (Nat.le_of_ble_eq_true rfl) dX10_isWorthHaving_47 ⟨Nat.zero_le _, Nat.zero_le _⟩ (fun H locs hP hS => ?_)
        refine lv_if_ne (tgt := 57) hx hb dX10_isWorthHaving_50 (by decide) (fun c6 => ?_) (fun c6 => ?_)
        · have h := of_f h c6
          refine lv_iconst (v := 0) hx hb dX10_isWorthHaving_57 (by decide) ?_
          exact t_X10_isWorthHaving_58 hX  hF (f_X10_isWorthHaving_32 n) ih v1 v3 0 σ4 _ _ _ h hP hS (lv_sub hl [0, 1, 3] rfl)
        · have h := of_t h c6
          refine lv_iconst (v := 1) hx hb dX10_isWorthHaving_53 (by decide) ?_
          refine lv_goto (tgt := 58) hx hb dX10_isWorthHaving_54 (by decide) ?_
          exact t_X10_isWorthHaving_58 hX  hF (f_X10_isWorthHaving_32 n) ih v1 v3 1 σ4 _ _ _ h hP hS (lv_sub hl [0, 1, 3] rfl)

def f_X10_isWorthHaving_29 (v1 : Int32) (s0 : Int32) (σ : Sta) : Option (Int32 × Sta) :=
  f_X10_isWorthHaving_32 FU v1 s0 0 σ
set_option maxHeartbeats 4000000 in
set_option maxRecDepth 100000 in
theorem t_X10_isWorthHaving_29 {l : Launch} {D : va_G} {Y : CYs} {E : Nat → Nat} {X : List Dsc} (hX : Lok (LM ++ X)) {p : Program} {e : Env} {s : State} {m : MethodId} {args : Array Value} {below : List Frame} {meth : Method} {c : Code} (hF : Fr p s m args meth c RX10 cX10_isWorthHaving 4 (some .boolean) D Y E (LM ++ X)) {o : Int32 × Sta} : ∀ (v1 : Int32) (s0 : Int32) (σ : Sta) (H : Heap) (locs : List Loc) (ls : Array Slot), f_X10_isWorthHaving_29 v1 s0 σ = some o → va_P D vwCl (wd Y E σ 0 (LM ++ X)) H → va_S (AF E (LM ++ X).length s.heap.size) s.heap H locs → lv_has ls 4 [(0, .ref (E 0)), (1, .int v1)] → WI p l e rm_X10_isWorthHaving s m args below meth c (LM ++ X) Y D E o H locs (F0 m 29 ls [.int s0]) := by
  intro v1 s0 σ H locs ls h hP hS hl
  unfold f_X10_isWorthHaving_29 at h
  obtain ⟨hC, hb, hml, hr, hlk, hD, hSW⟩ := id hF
  have hx := hC.1
  refine lv_istore_n (lv' := [(2, .int s0), (0, .ref (E 0)), (1, .int v1)]) hx hb dX10_isWorthHaving_29 rfl hl (by decide) rfl (fun ls hl => ?_)
  refine lv_iconst (v := 0) hx hb dX10_isWorthHaving_30 (by decide) ?_
  refine lv_istore_n (lv' := [(3, .int 0), (2, .int s0), (0, .ref (E 0)), (1, .int v1)]) hx hb dX10_isWorthHaving_31 rfl hl (by decide) rfl (fun ls hl => ?_)
  exact t_X10_isWorthHaving_32 hX  hF FU v1 s0 0 σ _ _ _ h hP hS (lv_sub hl [2, 3, 1, 0] rfl)

def f_X10_isWorthHaving_14 (v1 : Int32) (s0 : Int32) (σ : Sta) : Option (Int32 × Sta) :=
  lt (sI σ 0 s0) (fun σ1 =>
  if gI σ1 0 = 0 then
    f_X10_isWorthHaving_29 v1 1 σ1
  else
    f_X10_isWorthHaving_29 v1 0 σ1)
set_option maxHeartbeats 4000000 in
set_option maxRecDepth 100000 in
theorem t_X10_isWorthHaving_14 {l : Launch} {D : va_G} {Y : CYs} {E : Nat → Nat} {X : List Dsc} (hX : Lok (LM ++ X)) {p : Program} {e : Env} {s : State} {m : MethodId} {args : Array Value} {below : List Frame} {meth : Method} {c : Code} (hF : Fr p s m args meth c RX10 cX10_isWorthHaving 4 (some .boolean) D Y E (LM ++ X)) {o : Int32 × Sta} : ∀ (v1 : Int32) (s0 : Int32) (σ : Sta) (H : Heap) (locs : List Loc) (ls : Array Slot), f_X10_isWorthHaving_14 v1 s0 σ = some o → va_P D vwCl (wd Y E σ 0 (LM ++ X)) H → va_S (AF E (LM ++ X).length s.heap.size) s.heap H locs → lv_has ls 4 [(0, .ref (E 0)), (1, .int v1)] → WI p l e rm_X10_isWorthHaving s m args below meth c (LM ++ X) Y D E o H locs (F0 m 14 ls [.int s0, .ref (E 0)]) := by
  intro v1 s0 σ H locs ls h hP hS hl
  unfold f_X10_isWorthHaving_14 at h
  obtain ⟨hC, hb, hml, hr, hlk, hD, hSW⟩ := id hF
  have hx := hC.1
  refine pf_X10_140 hX hC hb hP hD hS dX10_isWorthHaving_14 (fun H locs σ1 eσ1 hP hS => ?_)
  have h := of_lt h eσ1
  refine lv_aload_n hx hb dX10_isWorthHaving_17 rfl (lv_at hl 0 rfl) ?_
  refine gf_X10_140 hC hb hP dX10_isWorthHaving_18 ?_
  refine lv_if_ne (tgt := 28) hx hb dX10_isWorthHaving_21 (by decide) (fun c2 => ?_) (fun c2 => ?_)
  · have h := of_f h c2
    refine lv_iconst (v := 0) hx hb dX10_isWorthHaving_28 (by decide) ?_
    exact t_X10_isWorthHaving_29 hX  hF v1 0 σ1 _ _ _ h hP hS (lv_sub hl [0, 1] rfl)
  · have h := of_t h c2
    refine lv_iconst (v := 1) hx hb dX10_isWorthHaving_24 (by decide) ?_
    refine lv_goto (tgt := 29) hx hb dX10_isWorthHaving_25 (by decide) ?_
    exact t_X10_isWorthHaving_29 hX  hF v1 1 σ1 _ _ _ h hP hS (lv_sub hl [0, 1] rfl)

def f_X10_isWorthHaving (a1 : Int32) (σ : Sta) : Option (Int32 × Sta) :=
  bnd (f_X10_isStrategy a1 σ) (fun r1 σ2 =>
  if r1 = 0 then
    f_X10_isWorthHaving_14 a1 1 σ2
  else
    f_X10_isWorthHaving_14 a1 0 σ2)
set_option maxHeartbeats 4000000 in
set_option maxRecDepth 100000 in
theorem c_X10_isWorthHaving {l : Launch} {D : va_G} {Y : CYs} {E : Nat → Nat} {X : List Dsc} (hX : Lok (LM ++ X)) {a1 : Int32} {σ : Sta} {o : Int32 × Sta} (h : f_X10_isWorthHaving a1 σ = some o) : MI l yX10_isWorthHaving (Cond.code yX10_isWorthHaving cX10_isWorthHaving 4 (some .boolean) :: gW) rm_X10_isWorthHaving (LM ++ X) Y D E [.ref (E 0), .int a1] σ o := by
  intro sz
  refine Met_of (Qc := fun sz => QI (LM ++ X) Y D E sz o) (by decide) (Nat.le_of_ble_eq_true rfl) (fun p e s m args below meth c hF hP ls hl => ?_) sz
  have hS : va_S (AF E (LM ++ X).length s.heap.size) s.heap s.heap [] := va_S.rf
  have hl : lv_has ls 4 [(0, .ref (E 0)), (1, .int a1)] := hl
  show WI p l e rm_X10_isWorthHaving s m args below meth c (LM ++ X) Y D E o s.heap [] (F0 m 0 ls [])
  unfold f_X10_isWorthHaving at h
  obtain ⟨hC, hb, hml, hr, hlk, hD, hSW⟩ := id hF
  have hx := hC.1
  refine lv_aload_n hx hb dX10_isWorthHaving_0 rfl (lv_at hl 0 rfl) ?_
  refine lv_aload_n hx hb dX10_isWorthHaving_1 rfl (lv_at hl 0 rfl) ?_
  refine lv_iload_n hx hb dX10_isWorthHaving_2 rfl (lv_at hl 1 rfl) ?_
  obtain ⟨r1, σ2, g3, h⟩ := of_bnd h
  refine x_VI (As := [.int a1]) (rest := [.ref (E 0)]) hF hl hP hS (c_X10_isStrategy hX g3) (cw_X10_432 hC rfl rfl ⟨Nat.le_of_ble_eq_true rfl, Nat.le_of_ble_eq_true rfl⟩) (lm_0 X) rfl rfl rfl (Nat.le_of_ble_eq_true rfl) dX10_isWorthHaving_3 ⟨Nat.zero_le _, Nat.zero_le _⟩ (fun H locs hP hS => ?_)
  refine lv_if_eq (tgt := 13) hx hb dX10_isWorthHaving_6 (by decide) (fun c4 => ?_) (fun c4 => ?_)
  · have h := of_t h c4
    refine lv_iconst (v := 1) hx hb dX10_isWorthHaving_13 (by decide) ?_
    exact t_X10_isWorthHaving_14 hX  hF a1 1 σ2 _ _ _ h hP hS (lv_sub hl [0, 1] rfl)
  · have h := of_f h c4
    refine lv_iconst (v := 0) hx hb dX10_isWorthHaving_9 (by decide) ?_
    refine lv_goto (tgt := 14) hx hb dX10_isWorthHaving_10 (by decide) ?_
    exact t_X10_isWorthHaving_14 hX  hF a1 0 σ2 _ _ _ h hP hS (lv_sub hl [0, 1] rfl)

abbrev rm_X10_bringsTheSame : Room := { frames := 0, cells := 0, slots := 0, locals := 0 }
def f_X10_bringsTheSame_49 (k5 : Int32 → Int32 → Int32 → Int32 → Sta → Option (Int32 × Sta)) (v1 : Int32) (v2 : Int32) (v4 : Int32) (s0 : Int32) (σ : Sta) : Option (Int32 × Sta) :=
  lt (v4 + 1) (fun x1 =>
  k5 v1 v2 s0 x1 σ)
set_option maxHeartbeats 4000000 in
set_option maxRecDepth 100000 in
theorem t_X10_bringsTheSame_49 {l : Launch} {D : va_G} {Y : CYs} {E : Nat → Nat} {X : List Dsc} (hX : Lok (LM ++ X)) {p : Program} {e : Env} {s : State} {m : MethodId} {args : Array Value} {below : List Frame} {meth : Method} {c : Code} (hF : Fr p s m args meth c RX10 cX10_bringsTheSame 5 (some .boolean) D Y E (LM ++ X)) {o : Int32 × Sta} (k5 : Int32 → Int32 → Int32 → Int32 → Sta → Option (Int32 × Sta)) (hk5 : ∀ (v1 : Int32) (v2 : Int32) (v3 : Int32) (v4 : Int32) (σ : Sta) (H : Heap) (locs : List Loc) (ls : Array Slot), k5 v1 v2 v3 v4 σ = some o → va_P D vwCl (wd Y E σ 0 (LM ++ X)) H → va_S (AF E (LM ++ X).length s.heap.size) s.heap H locs → lv_has ls 5 [(0, .ref (E 0)), (1, .int v1), (2, .int v2), (3, .int v3), (4, .int v4)] → WI p l e rm_X10_bringsTheSame s m args below meth c (LM ++ X) Y D E o H locs (F0 m 5 ls [])) : ∀ (v1 : Int32) (v2 : Int32) (v4 : Int32) (s0 : Int32) (σ : Sta) (H : Heap) (locs : List Loc) (ls : Array Slot), f_X10_bringsTheSame_49 k5 v1 v2 v4 s0 σ = some o → va_P D vwCl (wd Y E σ 0 (LM ++ X)) H → va_S (AF E (LM ++ X).length s.heap.size) s.heap H locs → lv_has ls 5 [(0, .ref (E 0)), (1, .int v1), (2, .int v2), (4, .int v4)] → WI p l e rm_X10_bringsTheSame s m args below meth c (LM ++ X) Y D E o H locs (F0 m 49 ls [.int s0]) := by
  intro v1 v2 v4 s0 σ H locs ls h hP hS hl
  unfold f_X10_bringsTheSame_49 at h
  obtain ⟨hC, hb, hml, hr, hlk, hD, hSW⟩ := id hF
  have hx := hC.1
  refine lv_istore_n (lv' := [(3, .int s0), (0, .ref (E 0)), (1, .int v1), (2, .int v2), (4, .int v4)]) hx hb dX10_bringsTheSame_49 rfl hl (by decide) rfl (fun ls hl => ?_)
  obtain ⟨x1, ex1⟩ : ∃ y : Int32, y = v4 + 1 := ⟨_, rfl⟩
  have h := of_lt h ex1
  refine lv_iinc (v := x1) (lv' := [(4, .int x1), (3, .int s0), (0, .ref (E 0)), (1, .int v1), (2, .int v2)]) hx hb dX10_bringsTheSame_50 hl (k := 4) rfl (by rw [ex1]; rfl) (by decide) rfl (fun ls hl => ?_)
  refine lv_goto (tgt := 5) hx hb dX10_bringsTheSame_53 (by decide) ?_
  exact hk5 v1 v2 s0 x1 σ _ _ _ h hP hS (lv_sub hl [2, 3, 4, 1, 0] rfl)

def f_X10_bringsTheSame_48 (k5 : Int32 → Int32 → Int32 → Int32 → Sta → Option (Int32 × Sta)) (v1 : Int32) (v2 : Int32) (v4 : Int32) (σ : Sta) : Option (Int32 × Sta) :=
  f_X10_bringsTheSame_49 k5 v1 v2 v4 0 σ
set_option maxHeartbeats 4000000 in
set_option maxRecDepth 100000 in
theorem t_X10_bringsTheSame_48 {l : Launch} {D : va_G} {Y : CYs} {E : Nat → Nat} {X : List Dsc} (hX : Lok (LM ++ X)) {p : Program} {e : Env} {s : State} {m : MethodId} {args : Array Value} {below : List Frame} {meth : Method} {c : Code} (hF : Fr p s m args meth c RX10 cX10_bringsTheSame 5 (some .boolean) D Y E (LM ++ X)) {o : Int32 × Sta} (k5 : Int32 → Int32 → Int32 → Int32 → Sta → Option (Int32 × Sta)) (hk5 : ∀ (v1 : Int32) (v2 : Int32) (v3 : Int32) (v4 : Int32) (σ : Sta) (H : Heap) (locs : List Loc) (ls : Array Slot), k5 v1 v2 v3 v4 σ = some o → va_P D vwCl (wd Y E σ 0 (LM ++ X)) H → va_S (AF E (LM ++ X).length s.heap.size) s.heap H locs → lv_has ls 5 [(0, .ref (E 0)), (1, .int v1), (2, .int v2), (3, .int v3), (4, .int v4)] → WI p l e rm_X10_bringsTheSame s m args below meth c (LM ++ X) Y D E o H locs (F0 m 5 ls [])) : ∀ (v1 : Int32) (v2 : Int32) (v4 : Int32) (σ : Sta) (H : Heap) (locs : List Loc) (ls : Array Slot), f_X10_bringsTheSame_48 k5 v1 v2 v4 σ = some o → va_P D vwCl (wd Y E σ 0 (LM ++ X)) H → va_S (AF E (LM ++ X).length s.heap.size) s.heap H locs → lv_has ls 5 [(0, .ref (E 0)), (1, .int v1), (2, .int v2), (4, .int v4)] → WI p l e rm_X10_bringsTheSame s m args below meth c (LM ++ X) Y D E o H locs (F0 m 48 ls []) := by
  intro v1 v2 v4 σ H locs ls h hP hS hl
  unfold f_X10_bringsTheSame_48 at h
  obtain ⟨hC, hb, hml, hr, hlk, hD, hSW⟩ := id hF
  have hx := hC.1
  refine lv_iconst (v := 0) hx hb dX10_bringsTheSame_48 (by decide) ?_
  exact t_X10_bringsTheSame_49 hX  hF k5 hk5 v1 v2 v4 0 σ _ _ _ h hP hS (lv_sub hl [0, 1, 2, 3] rfl)

def f_X10_bringsTheSame_5 : Nat → Int32 → Int32 → Int32 → Int32 → Sta → Option (Int32 × Sta)
  | 0, _, _, _, _, _ => none
  | n + 1, v1, v2, v3, v4, σ => if gI σ 15 ≤ v4 then
      if ¬ (v3 = 0 ∨ v3 = 1) then none else (
      some (v3, σ))
    else
      if v3 = 0 then
        f_X10_bringsTheSame_48 (f_X10_bringsTheSame_5 n) v1 v2 v4 σ
      else
        if (3 * v1) + v4 < 0 ∨ 66 ≤ (((3 * v1) + v4).toNatClampNeg) then none else (
        if (3 * v2) + v4 < 0 ∨ 66 ≤ (((3 * v2) + v4).toNatClampNeg) then none else (
        if lg_cmp (gJ σ 33 (((3 * v1) + v4).toNatClampNeg)) (gJ σ 33 (((3 * v2) + v4).toNatClampNeg)) = 0 then
          f_X10_bringsTheSame_49 (f_X10_bringsTheSame_5 n) v1 v2 v4 1 σ
        else
          f_X10_bringsTheSame_48 (f_X10_bringsTheSame_5 n) v1 v2 v4 σ))
set_option maxHeartbeats 4000000 in
set_option maxRecDepth 100000 in
theorem t_X10_bringsTheSame_5 {l : Launch} {D : va_G} {Y : CYs} {E : Nat → Nat} {X : List Dsc} (hX : Lok (LM ++ X)) {p : Program} {e : Env} {s : State} {m : MethodId} {args : Array Value} {below : List Frame} {meth : Method} {c : Code} (hF : Fr p s m args meth c RX10 cX10_bringsTheSame 5 (some .boolean) D Y E (LM ++ X)) {o : Int32 × Sta} : ∀ (n : Nat) (v1 : Int32) (v2 : Int32) (v3 : Int32) (v4 : Int32) (σ : Sta) (H : Heap) (locs : List Loc) (ls : Array Slot), f_X10_bringsTheSame_5 n v1 v2 v3 v4 σ = some o → va_P D vwCl (wd Y E σ 0 (LM ++ X)) H → va_S (AF E (LM ++ X).length s.heap.size) s.heap H locs → lv_has ls 5 [(0, .ref (E 0)), (1, .int v1), (2, .int v2), (3, .int v3), (4, .int v4)] → WI p l e rm_X10_bringsTheSame s m args below meth c (LM ++ X) Y D E o H locs (F0 m 5 ls []) := by
  intro n
  induction n with
  | zero =>
    intro v1 v2 v3 v4 σ H locs ls h hP hS hl
    exact nomatch (show (none : Option (Int32 × Sta)) = some o from h)
  | succ n ih =>
    intro v1 v2 v3 v4 σ H locs ls h hP hS hl
    rw [f_X10_bringsTheSame_5] at h
    obtain ⟨hC, hb, hml, hr, hlk, hD, hSW⟩ := id hF
    have hx := hC.1
    refine lv_iload hx hb dX10_bringsTheSame_5 (lv_at hl 4 rfl) ?_
    refine lv_aload_n hx hb dX10_bringsTheSame_7 rfl (lv_at hl 0 rfl) ?_
    refine gf_X10_201 hC hb hP dX10_bringsTheSame_8 ?_
    refine lv_icmp_ge (tgt := 56) hx hb dX10_bringsTheSame_11 (by decide) (fun c1 => ?_) (fun c1 => ?_)
    · have h := of_t h c1
      refine lv_iload_n hx hb dX10_bringsTheSame_56 rfl (lv_at hl 3 rfl) ?_
      obtain ⟨g2, h⟩ := of_gd h
      exact x_zret hF hP hS (zb g2) h dX10_bringsTheSame_57
    · have h := of_f h c1
      refine lv_iload_n hx hb dX10_bringsTheSame_14 rfl (lv_at hl 3 rfl) ?_
      refine lv_if_eq (tgt := 48) hx hb dX10_bringsTheSame_15 (by decide) (fun c3 => ?_) (fun c3 => ?_)
      · have h := of_t h c3
        exact t_X10_bringsTheSame_48 hX  hF (f_X10_bringsTheSame_5 n) ih v1 v2 v4 σ _ _ _ h hP hS (lv_sub hl [0, 1, 2, 4] rfl)
      · have h := of_f h c3
        refine lv_aload_n hx hb dX10_bringsTheSame_18 rfl (lv_at hl 0 rfl) ?_
        refine gf_X10_113 hC hb hP dX10_bringsTheSame_19 ?_
        refine lv_iconst (v := 3) hx hb dX10_bringsTheSame_22 (by decide) ?_
        refine lv_iload_n hx hb dX10_bringsTheSame_23 rfl (lv_at hl 1 rfl) ?_
        refine lv_imul hx hb dX10_bringsTheSame_24 ?_
        refine lv_iload hx hb dX10_bringsTheSame_25 (lv_at hl 4 rfl) ?_
        refine lv_iadd hx hb dX10_bringsTheSame_27 ?_
        obtain ⟨g4, h⟩ := of_gd h
        refine x_lald hC hb hP (lm_33 X) g4 dX10_bringsTheSame_28 ?_
        refine lv_aload_n hx hb dX10_bringsTheSame_29 rfl (lv_at hl 0 rfl) ?_
        refine gf_X10_113 hC hb hP dX10_bringsTheSame_30 ?_
        refine lv_iconst (v := 3) hx hb dX10_bringsTheSame_33 (by decide) ?_
        refine lv_iload_n hx hb dX10_bringsTheSame_34 rfl (lv_at hl 2 rfl) ?_
        refine lv_imul hx hb dX10_bringsTheSame_35 ?_
        refine lv_iload hx hb dX10_bringsTheSame_36 (lv_at hl 4 rfl) ?_
        refine lv_iadd hx hb dX10_bringsTheSame_38 ?_
        obtain ⟨g5, h⟩ := of_gd h
        refine x_lald hC hb hP (lm_33 X) g5 dX10_bringsTheSame_39 ?_
        refine W.lcmp hx hb dX10_bringsTheSame_40 ?_
        refine lv_if_ne (tgt := 48) hx hb dX10_bringsTheSame_41 (by decide) (fun c6 => ?_) (fun c6 => ?_)
        · have h := of_f h c6
          exact t_X10_bringsTheSame_48 hX  hF (f_X10_bringsTheSame_5 n) ih v1 v2 v4 σ _ _ _ h hP hS (lv_sub hl [0, 1, 2, 4] rfl)
        · have h := of_t h c6
          refine lv_iconst (v := 1) hx hb dX10_bringsTheSame_44 (by decide) ?_
          refine lv_goto (tgt := 49) hx hb dX10_bringsTheSame_45 (by decide) ?_
          exact t_X10_bringsTheSame_49 hX  hF (f_X10_bringsTheSame_5 n) ih v1 v2 v4 1 σ _ _ _ h hP hS (lv_sub hl [0, 1, 2, 4] rfl)

def f_X10_bringsTheSame (a1 : Int32) (a2 : Int32) (σ : Sta) : Option (Int32 × Sta) :=
  f_X10_bringsTheSame_5 FU a1 a2 1 0 σ
set_option maxHeartbeats 4000000 in
set_option maxRecDepth 100000 in
theorem c_X10_bringsTheSame {l : Launch} {D : va_G} {Y : CYs} {E : Nat → Nat} {X : List Dsc} (hX : Lok (LM ++ X)) {a1 : Int32} {a2 : Int32} {σ : Sta} {o : Int32 × Sta} (h : f_X10_bringsTheSame a1 a2 σ = some o) : MI l yX10_bringsTheSame (Cond.code yX10_bringsTheSame cX10_bringsTheSame 5 (some .boolean) :: gW) rm_X10_bringsTheSame (LM ++ X) Y D E [.ref (E 0), .int a1, .int a2] σ o := by
  intro sz
  refine Met_of (Qc := fun sz => QI (LM ++ X) Y D E sz o) (by decide) (Nat.le_of_ble_eq_true rfl) (fun p e s m args below meth c hF hP ls hl => ?_) sz
  have hS : va_S (AF E (LM ++ X).length s.heap.size) s.heap s.heap [] := va_S.rf
  have hl : lv_has ls 5 [(0, .ref (E 0)), (1, .int a1), (2, .int a2)] := hl
  show WI p l e rm_X10_bringsTheSame s m args below meth c (LM ++ X) Y D E o s.heap [] (F0 m 0 ls [])
  unfold f_X10_bringsTheSame at h
  obtain ⟨hC, hb, hml, hr, hlk, hD, hSW⟩ := id hF
  have hx := hC.1
  refine lv_iconst (v := 1) hx hb dX10_bringsTheSame_0 (by decide) ?_
  refine lv_istore_n (lv' := [(3, .int 1), (0, .ref (E 0)), (1, .int a1), (2, .int a2)]) hx hb dX10_bringsTheSame_1 rfl hl (by decide) rfl (fun ls hl => ?_)
  refine lv_iconst (v := 0) hx hb dX10_bringsTheSame_2 (by decide) ?_
  refine lv_istore (lv' := [(4, .int 0), (3, .int 1), (0, .ref (E 0)), (1, .int a1), (2, .int a2)]) hx hb dX10_bringsTheSame_3 hl (by decide) rfl (fun ls hl => ?_)
  exact t_X10_bringsTheSame_5 hX  hF FU a1 a2 1 0 σ _ _ _ h hP hS (lv_sub hl [2, 3, 4, 1, 0] rfl)

abbrev rm_X10_mixOf : Room := { frames := 0, cells := 0, slots := 0, locals := 0 }
def f_X10_mixOf (a1 : Int32) (a2 : Int32) (a3 : Int32) (a4 : Int32) (σ : Sta) : Option (Int64 × Sta) :=
  if (3 * a1) + a4 < 0 ∨ 66 ≤ (((3 * a1) + a4).toNatClampNeg) then none else (
  if (3 * a2) + a4 < 0 ∨ 66 ≤ (((3 * a2) + a4).toNatClampNeg) then none else (
  some (((a3.toInt64 * (gJ σ 33 (((3 * a1) + a4).toNatClampNeg))) + (((100 - a3).toInt64) * (gJ σ 33 (((3 * a2) + a4).toNatClampNeg)))) / 100, σ)))
set_option maxHeartbeats 4000000 in
set_option maxRecDepth 100000 in
theorem c_X10_mixOf {l : Launch} {D : va_G} {Y : CYs} {E : Nat → Nat} {X : List Dsc} (hX : Lok (LM ++ X)) {a1 : Int32} {a2 : Int32} {a3 : Int32} {a4 : Int32} {σ : Sta} {o : Int64 × Sta} (h : f_X10_mixOf a1 a2 a3 a4 σ = some o) : ML l yX10_mixOf (Cond.code yX10_mixOf cX10_mixOf 5 (some .long) :: gW) rm_X10_mixOf (LM ++ X) Y D E [.ref (E 0), .int a1, .int a2, .int a3, .int a4] σ o := by
  intro sz
  refine Met_of (Qc := fun sz => QL (LM ++ X) Y D E sz o) (by decide) (Nat.le_of_ble_eq_true rfl) (fun p e s m args below meth c hF hP ls hl => ?_) sz
  have hS : va_S (AF E (LM ++ X).length s.heap.size) s.heap s.heap [] := va_S.rf
  have hl : lv_has ls 5 [(0, .ref (E 0)), (1, .int a1), (2, .int a2), (3, .int a3), (4, .int a4)] := hl
  show WL p l e rm_X10_mixOf s m args below meth c (LM ++ X) Y D E o s.heap [] (F0 m 0 ls [])
  unfold f_X10_mixOf at h
  obtain ⟨hC, hb, hml, hr, hlk, hD, hSW⟩ := id hF
  have hx := hC.1
  refine lv_iload_n hx hb dX10_mixOf_0 rfl (lv_at hl 3 rfl) ?_
  refine lv_i2l (v := a3.toInt64) hx hb dX10_mixOf_1 rfl ?_
  refine lv_aload_n hx hb dX10_mixOf_2 rfl (lv_at hl 0 rfl) ?_
  refine gf_X10_113 hC hb hP dX10_mixOf_3 ?_
  refine lv_iconst (v := 3) hx hb dX10_mixOf_6 (by decide) ?_
  refine lv_iload_n hx hb dX10_mixOf_7 rfl (lv_at hl 1 rfl) ?_
  refine lv_imul hx hb dX10_mixOf_8 ?_
  refine lv_iload hx hb dX10_mixOf_9 (lv_at hl 4 rfl) ?_
  refine lv_iadd hx hb dX10_mixOf_11 ?_
  obtain ⟨g1, h⟩ := of_gd h
  refine x_lald hC hb hP (lm_33 X) g1 dX10_mixOf_12 ?_
  refine lv_lmul hx hb dX10_mixOf_13 ?_
  refine lv_bipush (v := 100) hx hb dX10_mixOf_14 (by decide) ?_
  refine lv_iload_n hx hb dX10_mixOf_16 rfl (lv_at hl 3 rfl) ?_
  refine lv_isub hx hb dX10_mixOf_17 ?_
  refine lv_i2l (v := (100 - a3).toInt64) hx hb dX10_mixOf_18 rfl ?_
  refine lv_aload_n hx hb dX10_mixOf_19 rfl (lv_at hl 0 rfl) ?_
  refine gf_X10_113 hC hb hP dX10_mixOf_20 ?_
  refine lv_iconst (v := 3) hx hb dX10_mixOf_23 (by decide) ?_
  refine lv_iload_n hx hb dX10_mixOf_24 rfl (lv_at hl 2 rfl) ?_
  refine lv_imul hx hb dX10_mixOf_25 ?_
  refine lv_iload hx hb dX10_mixOf_26 (lv_at hl 4 rfl) ?_
  refine lv_iadd hx hb dX10_mixOf_28 ?_
  obtain ⟨g2, h⟩ := of_gd h
  refine x_lald hC hb hP (lm_33 X) g2 dX10_mixOf_29 ?_
  refine lv_lmul hx hb dX10_mixOf_30 ?_
  refine lv_ladd hx hb dX10_mixOf_31 ?_
  refine lv_ldc2 (v := 100) hx hb hC.2.2.1 (hC.2.1 (Cond.constantLong RX10 328 100) (gw_t (tb7 (List.mem_of_getElem? (i := 177) rfl)) rfl)) dX10_mixOf_32 ?_
  refine lv_ldiv hx hb dX10_mixOf_35 (by decide) ?_
  exact x_lret hF hP hS h dX10_mixOf_36

abbrev rm_X10_mix : Room := { frames := 2, cells := 0, slots := 0, locals := 46 }
def f_X10_mix_70 (s0 : Int64) (σ : Sta) : Option (Int64 × Sta) :=
  some (s0, σ)
set_option maxHeartbeats 4000000 in
set_option maxRecDepth 100000 in
theorem t_X10_mix_70 {l : Launch} {D : va_G} {Y : CYs} {E : Nat → Nat} {X : List Dsc} (hX : Lok (LM ++ X)) {p : Program} {e : Env} {s : State} {m : MethodId} {args : Array Value} {below : List Frame} {meth : Method} {c : Code} (hF : Fr p s m args meth c RX10 cX10_mix 5 (some .long) D Y E (LM ++ X)) {o : Int64 × Sta} : ∀ (s0 : Int64) (σ : Sta) (H : Heap) (locs : List Loc) (ls : Array Slot), f_X10_mix_70 s0 σ = some o → va_P D vwCl (wd Y E σ 0 (LM ++ X)) H → va_S (AF E (LM ++ X).length s.heap.size) s.heap H locs → lv_has ls 5 [] → WL p l e rm_X10_mix s m args below meth c (LM ++ X) Y D E o H locs (F0 m 70 ls [.long s0]) := by
  intro s0 σ H locs ls h hP hS hl
  unfold f_X10_mix_70 at h
  obtain ⟨hC, hb, hml, hr, hlk, hD, hSW⟩ := id hF
  have hx := hC.1
  exact x_lret hF hP hS h dX10_mix_70

def f_X10_mix_47 (v1 : Int32) (v2 : Int32) (v3 : Int32) (v4 : Int32) (s0 : Int32) (σ : Sta) : Option (Int64 × Sta) :=
  lt (sI σ 0 s0) (fun σ1 =>
  if gI σ1 0 = 0 then
    bnd (f_X10_mixOf v1 v2 v3 v4 σ1) (fun r3 σ4 =>
    f_X10_mix_70 r3 σ4)
  else
    f_X10_mix_70 0 σ1)
set_option maxHeartbeats 4000000 in
set_option maxRecDepth 100000 in
theorem t_X10_mix_47 {l : Launch} {D : va_G} {Y : CYs} {E : Nat → Nat} {X : List Dsc} (hX : Lok (LM ++ X)) {p : Program} {e : Env} {s : State} {m : MethodId} {args : Array Value} {below : List Frame} {meth : Method} {c : Code} (hF : Fr p s m args meth c RX10 cX10_mix 5 (some .long) D Y E (LM ++ X)) {o : Int64 × Sta} : ∀ (v1 : Int32) (v2 : Int32) (v3 : Int32) (v4 : Int32) (s0 : Int32) (σ : Sta) (H : Heap) (locs : List Loc) (ls : Array Slot), f_X10_mix_47 v1 v2 v3 v4 s0 σ = some o → va_P D vwCl (wd Y E σ 0 (LM ++ X)) H → va_S (AF E (LM ++ X).length s.heap.size) s.heap H locs → lv_has ls 5 [(0, .ref (E 0)), (1, .int v1), (2, .int v2), (3, .int v3), (4, .int v4)] → WL p l e rm_X10_mix s m args below meth c (LM ++ X) Y D E o H locs (F0 m 47 ls [.int s0, .ref (E 0)]) := by
  intro v1 v2 v3 v4 s0 σ H locs ls h hP hS hl
  unfold f_X10_mix_47 at h
  obtain ⟨hC, hb, hml, hr, hlk, hD, hSW⟩ := id hF
  have hx := hC.1
  refine pf_X10_140 hX hC hb hP hD hS dX10_mix_47 (fun H locs σ1 eσ1 hP hS => ?_)
  have h := of_lt h eσ1
  refine lv_aload_n hx hb dX10_mix_50 rfl (lv_at hl 0 rfl) ?_
  refine gf_X10_140 hC hb hP dX10_mix_51 ?_
  refine lv_if_ne (tgt := 69) hx hb dX10_mix_54 (by decide) (fun c2 => ?_) (fun c2 => ?_)
  · have h := of_f h c2
    refine lv_lconst (v := 0) hx hb dX10_mix_69 (by decide) ?_
    exact t_X10_mix_70 hX  hF 0 σ1 _ _ _ h hP hS (lv_sub hl [] rfl)
  · have h := of_t h c2
    refine lv_aload_n hx hb dX10_mix_57 rfl (lv_at hl 0 rfl) ?_
    refine lv_iload_n hx hb dX10_mix_58 rfl (lv_at hl 1 rfl) ?_
    refine lv_iload_n hx hb dX10_mix_59 rfl (lv_at hl 2 rfl) ?_
    refine lv_iload_n hx hb dX10_mix_60 rfl (lv_at hl 3 rfl) ?_
    refine lv_iload hx hb dX10_mix_61 (lv_at hl 4 rfl) ?_
    obtain ⟨r3, σ4, g5, h⟩ := of_bnd h
    refine x_VL (As := [.int v1, .int v2, .int v3, .int v4]) (rest := []) hF hl hP hS (c_X10_mixOf hX g5) (cw_X10_441 hC rfl rfl ⟨Nat.le_of_ble_eq_true rfl, Nat.le_of_ble_eq_true rfl⟩) (lm_0 X) rfl rfl rfl (Nat.le_of_ble_eq_true rfl) dX10_mix_63 ⟨Nat.zero_le _, Nat.zero_le _⟩ (fun H locs hP hS => ?_)
    refine lv_goto (tgt := 70) hx hb dX10_mix_66 (by decide) ?_
    exact t_X10_mix_70 hX  hF r3 σ4 _ _ _ h hP hS (lv_sub hl [] rfl)

def f_X10_mix_26 (v1 : Int32) (v2 : Int32) (v3 : Int32) (v4 : Int32) (σ : Sta) : Option (Int64 × Sta) :=
  f_X10_mix_47 v1 v2 v3 v4 1 σ
set_option maxHeartbeats 4000000 in
set_option maxRecDepth 100000 in
theorem t_X10_mix_26 {l : Launch} {D : va_G} {Y : CYs} {E : Nat → Nat} {X : List Dsc} (hX : Lok (LM ++ X)) {p : Program} {e : Env} {s : State} {m : MethodId} {args : Array Value} {below : List Frame} {meth : Method} {c : Code} (hF : Fr p s m args meth c RX10 cX10_mix 5 (some .long) D Y E (LM ++ X)) {o : Int64 × Sta} : ∀ (v1 : Int32) (v2 : Int32) (v3 : Int32) (v4 : Int32) (σ : Sta) (H : Heap) (locs : List Loc) (ls : Array Slot), f_X10_mix_26 v1 v2 v3 v4 σ = some o → va_P D vwCl (wd Y E σ 0 (LM ++ X)) H → va_S (AF E (LM ++ X).length s.heap.size) s.heap H locs → lv_has ls 5 [(0, .ref (E 0)), (1, .int v1), (2, .int v2), (3, .int v3), (4, .int v4)] → WL p l e rm_X10_mix s m args below meth c (LM ++ X) Y D E o H locs (F0 m 26 ls [.ref (E 0)]) := by
  intro v1 v2 v3 v4 σ H locs ls h hP hS hl
  unfold f_X10_mix_26 at h
  obtain ⟨hC, hb, hml, hr, hlk, hD, hSW⟩ := id hF
  have hx := hC.1
  refine lv_iconst (v := 1) hx hb dX10_mix_26 (by decide) ?_
  refine lv_goto (tgt := 47) hx hb dX10_mix_27 (by decide) ?_
  exact t_X10_mix_47 hX  hF v1 v2 v3 v4 1 σ _ _ _ h hP hS (lv_sub hl [0, 1, 2, 3, 4] rfl)

def f_X10_mix (a1 : Int32) (a2 : Int32) (a3 : Int32) (a4 : Int32) (σ : Sta) : Option (Int64 × Sta) :=
  bnd (f_X10_isStrategy a1 σ) (fun r1 σ2 =>
  if r1 = 0 then
    f_X10_mix_26 a1 a2 a3 a4 σ2
  else
    bnd (f_X10_isStrategy a2 σ2) (fun r5 σ6 =>
    if r5 = 0 then
      f_X10_mix_26 a1 a2 a3 a4 σ6
    else
      bnd (f_X10_isGain a4 σ6) (fun r9 σ10 =>
      if r9 = 0 then
        f_X10_mix_26 a1 a2 a3 a4 σ10
      else
        bnd (f_X10_isIn a3.toInt64 0 100 σ10) (fun r13 σ14 =>
        if r13 = 0 then
          f_X10_mix_47 a1 a2 a3 a4 2 σ14
        else
          f_X10_mix_47 a1 a2 a3 a4 0 σ14))))
set_option maxHeartbeats 4000000 in
set_option maxRecDepth 100000 in
theorem c_X10_mix {l : Launch} {D : va_G} {Y : CYs} {E : Nat → Nat} {X : List Dsc} (hX : Lok (LM ++ X)) {a1 : Int32} {a2 : Int32} {a3 : Int32} {a4 : Int32} {σ : Sta} {o : Int64 × Sta} (h : f_X10_mix a1 a2 a3 a4 σ = some o) : ML l yX10_mix (Cond.code yX10_mix cX10_mix 5 (some .long) :: gW) rm_X10_mix (LM ++ X) Y D E [.ref (E 0), .int a1, .int a2, .int a3, .int a4] σ o := by
  intro sz
  refine Met_of (Qc := fun sz => QL (LM ++ X) Y D E sz o) (by decide) (Nat.le_of_ble_eq_true rfl) (fun p e s m args below meth c hF hP ls hl => ?_) sz
  have hS : va_S (AF E (LM ++ X).length s.heap.size) s.heap s.heap [] := va_S.rf
  have hl : lv_has ls 5 [(0, .ref (E 0)), (1, .int a1), (2, .int a2), (3, .int a3), (4, .int a4)] := hl
  show WL p l e rm_X10_mix s m args below meth c (LM ++ X) Y D E o s.heap [] (F0 m 0 ls [])
  unfold f_X10_mix at h
  obtain ⟨hC, hb, hml, hr, hlk, hD, hSW⟩ := id hF
  have hx := hC.1
  refine lv_aload_n hx hb dX10_mix_0 rfl (lv_at hl 0 rfl) ?_
  refine lv_aload_n hx hb dX10_mix_1 rfl (lv_at hl 0 rfl) ?_
  refine lv_iload_n hx hb dX10_mix_2 rfl (lv_at hl 1 rfl) ?_
  obtain ⟨r1, σ2, g3, h⟩ := of_bnd h
  refine x_VI (As := [.int a1]) (rest := [.ref (E 0)]) hF hl hP hS (c_X10_isStrategy hX g3) (cw_X10_432 hC rfl rfl ⟨Nat.le_of_ble_eq_true rfl, Nat.le_of_ble_eq_true rfl⟩) (lm_0 X) rfl rfl rfl (Nat.le_of_ble_eq_true rfl) dX10_mix_3 ⟨Nat.zero_le _, Nat.zero_le _⟩ (fun H locs hP hS => ?_)
  refine lv_if_eq (tgt := 26) hx hb dX10_mix_6 (by decide) (fun c4 => ?_) (fun c4 => ?_)
  · have h := of_t h c4
    exact t_X10_mix_26 hX  hF a1 a2 a3 a4 σ2 _ _ _ h hP hS (lv_sub hl [0, 1, 2, 3, 4] rfl)
  · have h := of_f h c4
    refine lv_aload_n hx hb dX10_mix_9 rfl (lv_at hl 0 rfl) ?_
    refine lv_iload_n hx hb dX10_mix_10 rfl (lv_at hl 2 rfl) ?_
    obtain ⟨r5, σ6, g7, h⟩ := of_bnd h
    refine x_VI (As := [.int a2]) (rest := [.ref (E 0)]) hF hl hP hS (c_X10_isStrategy hX g7) (cw_X10_432 hC rfl rfl ⟨Nat.le_of_ble_eq_true rfl, Nat.le_of_ble_eq_true rfl⟩) (lm_0 X) rfl rfl rfl (Nat.le_of_ble_eq_true rfl) dX10_mix_11 ⟨Nat.zero_le _, Nat.zero_le _⟩ (fun H locs hP hS => ?_)
    refine lv_if_eq (tgt := 26) hx hb dX10_mix_14 (by decide) (fun c8 => ?_) (fun c8 => ?_)
    · have h := of_t h c8
      exact t_X10_mix_26 hX  hF a1 a2 a3 a4 σ6 _ _ _ h hP hS (lv_sub hl [0, 1, 2, 3, 4] rfl)
    · have h := of_f h c8
      refine lv_aload_n hx hb dX10_mix_17 rfl (lv_at hl 0 rfl) ?_
      refine lv_iload hx hb dX10_mix_18 (lv_at hl 4 rfl) ?_
      obtain ⟨r9, σ10, g11, h⟩ := of_bnd h
      refine x_VI (As := [.int a4]) (rest := [.ref (E 0)]) hF hl hP hS (c_X10_isGain hX g11) (cw_X10_419 hC rfl rfl ⟨Nat.le_of_ble_eq_true rfl, Nat.le_of_ble_eq_true rfl⟩) (lm_0 X) rfl rfl rfl (Nat.le_of_ble_eq_true rfl) dX10_mix_20 ⟨Nat.zero_le _, Nat.zero_le _⟩ (fun H locs hP hS => ?_)
      refine lv_if_ne (tgt := 30) hx hb dX10_mix_23 (by decide) (fun c12 => ?_) (fun c12 => ?_)
      · have h := of_f h c12
        refine lv_iload_n hx hb dX10_mix_30 rfl (lv_at hl 3 rfl) ?_
        refine lv_i2l (v := a3.toInt64) hx hb dX10_mix_31 rfl ?_
        refine lv_lconst (v := 0) hx hb dX10_mix_32 (by decide) ?_
        refine lv_ldc2 (v := 100) hx hb hC.2.2.1 (hC.2.1 (Cond.constantLong RX10 328 100) (gw_t (tb7 (List.mem_of_getElem? (i := 177) rfl)) rfl)) dX10_mix_33 ?_
        obtain ⟨r13, σ14, g15, h⟩ := of_bnd h
        refine x_SI (As := [.long a3.toInt64, .long 0, .long 100]) (rest := [.ref (E 0)]) hF hl hP hS (c_X10_isIn hX g15) (cw_X10_154 hC rfl rfl ⟨Nat.le_of_ble_eq_true rfl, Nat.le_of_ble_eq_true rfl⟩) rfl rfl (Nat.le_of_ble_eq_true rfl) dX10_mix_36 ⟨Nat.zero_le _, Nat.zero_le _⟩ (fun H locs hP hS => ?_)
        refine lv_if_eq (tgt := 46) hx hb dX10_mix_39 (by decide) (fun c16 => ?_) (fun c16 => ?_)
        · have h := of_t h c16
          refine lv_iconst (v := 2) hx hb dX10_mix_46 (by decide) ?_
          exact t_X10_mix_47 hX  hF a1 a2 a3 a4 2 σ14 _ _ _ h hP hS (lv_sub hl [0, 1, 2, 3, 4] rfl)
        · have h := of_f h c16
          refine lv_iconst (v := 0) hx hb dX10_mix_42 (by decide) ?_
          refine lv_goto (tgt := 47) hx hb dX10_mix_43 (by decide) ?_
          exact t_X10_mix_47 hX  hF a1 a2 a3 a4 0 σ14 _ _ _ h hP hS (lv_sub hl [0, 1, 2, 3, 4] rfl)
      · have h := of_t h c12
        exact t_X10_mix_26 hX  hF a1 a2 a3 a4 σ10 _ _ _ h hP hS (lv_sub hl [0, 1, 2, 3, 4] rfl)

abbrev rm_X10_bestMix : Room := { frames := 2, cells := 0, slots := 0, locals := 46 }
def f_X10_bestMix_21 (σ : Sta) : Option (Int32 × Sta) :=
  bnd (f_X10_fail 1 σ) (fun r1 σ2 =>
  some (r1, σ2))
set_option maxHeartbeats 4000000 in
set_option maxRecDepth 100000 in
theorem t_X10_bestMix_21 {l : Launch} {D : va_G} {Y : CYs} {E : Nat → Nat} {X : List Dsc} (hX : Lok (LM ++ X)) {p : Program} {e : Env} {s : State} {m : MethodId} {args : Array Value} {below : List Frame} {meth : Method} {c : Code} (hF : Fr p s m args meth c RX10 cX10_bestMix 11 (some .int) D Y E (LM ++ X)) {o : Int32 × Sta} : ∀ (σ : Sta) (H : Heap) (locs : List Loc) (ls : Array Slot), f_X10_bestMix_21 σ = some o → va_P D vwCl (wd Y E σ 0 (LM ++ X)) H → va_S (AF E (LM ++ X).length s.heap.size) s.heap H locs → lv_has ls 11 [(0, .ref (E 0))] → WI p l e rm_X10_bestMix s m args below meth c (LM ++ X) Y D E o H locs (F0 m 21 ls []) := by
  intro σ H locs ls h hP hS hl
  unfold f_X10_bestMix_21 at h
  obtain ⟨hC, hb, hml, hr, hlk, hD, hSW⟩ := id hF
  have hx := hC.1
  refine lv_aload_n hx hb dX10_bestMix_21 rfl (lv_at hl 0 rfl) ?_
  refine lv_iconst (v := 1) hx hb dX10_bestMix_22 (by decide) ?_
  obtain ⟨r1, σ2, g3, h⟩ := of_bnd h
  refine x_VI (As := [.int 1]) (rest := []) hF hl hP hS (c_X10_fail hX g3) (cw_X10_146 hC rfl rfl ⟨Nat.le_of_ble_eq_true rfl, Nat.le_of_ble_eq_true rfl⟩) (lm_0 X) rfl rfl rfl (Nat.le_of_ble_eq_true rfl) dX10_bestMix_23 ⟨Nat.zero_le _, Nat.zero_le _⟩ (fun H locs hP hS => ?_)
  exact x_iret hF hP hS h dX10_bestMix_26

def f_X10_bestMix_141 (k36 : Int32 → Int32 → Int64 → Int32 → Int64 → Int32 → Sta → Option (Int32 × Sta)) (k49 : Int32 → Int32 → Int64 → Int32 → Int64 → Int32 → Int32 → Sta → Option (Int32 × Sta)) (k61 : Int32 → Int32 → Int64 → Int32 → Int64 → Int32 → Int32 → Int32 → Sta → Option (Int32 × Sta)) (v1 : Int32) (v2 : Int32) (v3 : Int64) (v5 : Int32) (v6 : Int64) (v8 : Int32) (v9 : Int32) (v10 : Int32) (σ : Sta) : Option (Int32 × Sta) :=
  lt (v10 + 1) (fun x1 =>
  k61 v1 v2 v3 v5 v6 v8 v9 x1 σ)
set_option maxHeartbeats 4000000 in
set_option maxRecDepth 100000 in
theorem t_X10_bestMix_141 {l : Launch} {D : va_G} {Y : CYs} {E : Nat → Nat} {X : List Dsc} (hX : Lok (LM ++ X)) {p : Program} {e : Env} {s : State} {m : MethodId} {args : Array Value} {below : List Frame} {meth : Method} {c : Code} (hF : Fr p s m args meth c RX10 cX10_bestMix 11 (some .int) D Y E (LM ++ X)) {o : Int32 × Sta} (k36 : Int32 → Int32 → Int64 → Int32 → Int64 → Int32 → Sta → Option (Int32 × Sta)) (k49 : Int32 → Int32 → Int64 → Int32 → Int64 → Int32 → Int32 → Sta → Option (Int32 × Sta)) (k61 : Int32 → Int32 → Int64 → Int32 → Int64 → Int32 → Int32 → Int32 → Sta → Option (Int32 × Sta)) (hk36 : ∀ (v1 : Int32) (v2 : Int32) (v3 : Int64) (v5 : Int32) (v6 : Int64) (v8 : Int32) (σ : Sta) (H : Heap) (locs : List Loc) (ls : Array Slot), k36 v1 v2 v3 v5 v6 v8 σ = some o → va_P D vwCl (wd Y E σ 0 (LM ++ X)) H → va_S (AF E (LM ++ X).length s.heap.size) s.heap H locs → lv_has ls 11 [(0, .ref (E 0)), (1, .int v1), (2, .int v2), (3, .long v3), (5, .int v5), (6, .long v6), (8, .int v8)] → WI p l e rm_X10_bestMix s m args below meth c (LM ++ X) Y D E o H locs (F0 m 36 ls [])) (hk49 : ∀ (v1 : Int32) (v2 : Int32) (v3 : Int64) (v5 : Int32) (v6 : Int64) (v8 : Int32) (v9 : Int32) (σ : Sta) (H : Heap) (locs : List Loc) (ls : Array Slot), k49 v1 v2 v3 v5 v6 v8 v9 σ = some o → va_P D vwCl (wd Y E σ 0 (LM ++ X)) H → va_S (AF E (LM ++ X).length s.heap.size) s.heap H locs → lv_has ls 11 [(0, .ref (E 0)), (1, .int v1), (2, .int v2), (3, .long v3), (5, .int v5), (6, .long v6), (8, .int v8), (9, .int v9)] → WI p l e rm_X10_bestMix s m args below meth c (LM ++ X) Y D E o H locs (F0 m 49 ls [])) (hk61 : ∀ (v1 : Int32) (v2 : Int32) (v3 : Int64) (v5 : Int32) (v6 : Int64) (v8 : Int32) (v9 : Int32) (v10 : Int32) (σ : Sta) (H : Heap) (locs : List Loc) (ls : Array Slot), k61 v1 v2 v3 v5 v6 v8 v9 v10 σ = some o → va_P D vwCl (wd Y E σ 0 (LM ++ X)) H → va_S (AF E (LM ++ X).length s.heap.size) s.heap H locs → lv_has ls 11 [(0, .ref (E 0)), (1, .int v1), (2, .int v2), (3, .long v3), (5, .int v5), (6, .long v6), (8, .int v8), (9, .int v9), (10, .int v10)] → WI p l e rm_X10_bestMix s m args below meth c (LM ++ X) Y D E o H locs (F0 m 61 ls [])) : ∀ (v1 : Int32) (v2 : Int32) (v3 : Int64) (v5 : Int32) (v6 : Int64) (v8 : Int32) (v9 : Int32) (v10 : Int32) (σ : Sta) (H : Heap) (locs : List Loc) (ls : Array Slot), f_X10_bestMix_141 k36 k49 k61 v1 v2 v3 v5 v6 v8 v9 v10 σ = some o → va_P D vwCl (wd Y E σ 0 (LM ++ X)) H → va_S (AF E (LM ++ X).length s.heap.size) s.heap H locs → lv_has ls 11 [(0, .ref (E 0)), (1, .int v1), (2, .int v2), (3, .long v3), (5, .int v5), (6, .long v6), (8, .int v8), (9, .int v9), (10, .int v10)] → WI p l e rm_X10_bestMix s m args below meth c (LM ++ X) Y D E o H locs (F0 m 141 ls []) := by
  intro v1 v2 v3 v5 v6 v8 v9 v10 σ H locs ls h hP hS hl
  unfold f_X10_bestMix_141 at h
  obtain ⟨hC, hb, hml, hr, hlk, hD, hSW⟩ := id hF
  have hx := hC.1
  obtain ⟨x1, ex1⟩ : ∃ y : Int32, y = v10 + 1 := ⟨_, rfl⟩
  have h := of_lt h ex1
  refine lv_iinc (v := x1) (lv' := [(10, .int x1), (0, .ref (E 0)), (1, .int v1), (2, .int v2), (3, .long v3), (5, .int v5), (6, .long v6), (8, .int v8), (9, .int v9)]) hx hb dX10_bestMix_141 hl (k := 8) rfl (by rw [ex1]; rfl) (by decide) rfl (fun ls hl => ?_)
  refine lv_goto (tgt := 61) hx hb dX10_bestMix_144 (by decide) ?_
  exact hk61 v1 v2 v3 v5 v6 v8 v9 x1 σ _ _ _ h hP hS (lv_sub hl [1, 2, 3, 4, 5, 6, 7, 8, 0] rfl)

def f_X10_bestMix_110 (k36 : Int32 → Int32 → Int64 → Int32 → Int64 → Int32 → Sta → Option (Int32 × Sta)) (k49 : Int32 → Int32 → Int64 → Int32 → Int64 → Int32 → Int32 → Sta → Option (Int32 × Sta)) (k61 : Int32 → Int32 → Int64 → Int32 → Int64 → Int32 → Int32 → Int32 → Sta → Option (Int32 × Sta)) (v1 : Int32) (v2 : Int32) (v3 : Int64) (v8 : Int32) (v9 : Int32) (v10 : Int32) (σ : Sta) : Option (Int32 × Sta) :=
  lt (((100000 * v8) + (1000 * v9)) + v10) (fun x1 =>
  bnd (f_X10_mixOf v8 v9 v10 v1 σ) (fun r2 σ3 =>
  f_X10_bestMix_141 k36 k49 k61 v1 v2 v3 x1 r2 v8 v9 v10 σ3))
set_option maxHeartbeats 4000000 in
set_option maxRecDepth 100000 in
theorem t_X10_bestMix_110 {l : Launch} {D : va_G} {Y : CYs} {E : Nat → Nat} {X : List Dsc} (hX : Lok (LM ++ X)) {p : Program} {e : Env} {s : State} {m : MethodId} {args : Array Value} {below : List Frame} {meth : Method} {c : Code} (hF : Fr p s m args meth c RX10 cX10_bestMix 11 (some .int) D Y E (LM ++ X)) {o : Int32 × Sta} (k36 : Int32 → Int32 → Int64 → Int32 → Int64 → Int32 → Sta → Option (Int32 × Sta)) (k49 : Int32 → Int32 → Int64 → Int32 → Int64 → Int32 → Int32 → Sta → Option (Int32 × Sta)) (k61 : Int32 → Int32 → Int64 → Int32 → Int64 → Int32 → Int32 → Int32 → Sta → Option (Int32 × Sta)) (hk36 : ∀ (v1 : Int32) (v2 : Int32) (v3 : Int64) (v5 : Int32) (v6 : Int64) (v8 : Int32) (σ : Sta) (H : Heap) (locs : List Loc) (ls : Array Slot), k36 v1 v2 v3 v5 v6 v8 σ = some o → va_P D vwCl (wd Y E σ 0 (LM ++ X)) H → va_S (AF E (LM ++ X).length s.heap.size) s.heap H locs → lv_has ls 11 [(0, .ref (E 0)), (1, .int v1), (2, .int v2), (3, .long v3), (5, .int v5), (6, .long v6), (8, .int v8)] → WI p l e rm_X10_bestMix s m args below meth c (LM ++ X) Y D E o H locs (F0 m 36 ls [])) (hk49 : ∀ (v1 : Int32) (v2 : Int32) (v3 : Int64) (v5 : Int32) (v6 : Int64) (v8 : Int32) (v9 : Int32) (σ : Sta) (H : Heap) (locs : List Loc) (ls : Array Slot), k49 v1 v2 v3 v5 v6 v8 v9 σ = some o → va_P D vwCl (wd Y E σ 0 (LM ++ X)) H → va_S (AF E (LM ++ X).length s.heap.size) s.heap H locs → lv_has ls 11 [(0, .ref (E 0)), (1, .int v1), (2, .int v2), (3, .long v3), (5, .int v5), (6, .long v6), (8, .int v8), (9, .int v9)] → WI p l e rm_X10_bestMix s m args below meth c (LM ++ X) Y D E o H locs (F0 m 49 ls [])) (hk61 : ∀ (v1 : Int32) (v2 : Int32) (v3 : Int64) (v5 : Int32) (v6 : Int64) (v8 : Int32) (v9 : Int32) (v10 : Int32) (σ : Sta) (H : Heap) (locs : List Loc) (ls : Array Slot), k61 v1 v2 v3 v5 v6 v8 v9 v10 σ = some o → va_P D vwCl (wd Y E σ 0 (LM ++ X)) H → va_S (AF E (LM ++ X).length s.heap.size) s.heap H locs → lv_has ls 11 [(0, .ref (E 0)), (1, .int v1), (2, .int v2), (3, .long v3), (5, .int v5), (6, .long v6), (8, .int v8), (9, .int v9), (10, .int v10)] → WI p l e rm_X10_bestMix s m args below meth c (LM ++ X) Y D E o H locs (F0 m 61 ls [])) : ∀ (v1 : Int32) (v2 : Int32) (v3 : Int64) (v8 : Int32) (v9 : Int32) (v10 : Int32) (σ : Sta) (H : Heap) (locs : List Loc) (ls : Array Slot), f_X10_bestMix_110 k36 k49 k61 v1 v2 v3 v8 v9 v10 σ = some o → va_P D vwCl (wd Y E σ 0 (LM ++ X)) H → va_S (AF E (LM ++ X).length s.heap.size) s.heap H locs → lv_has ls 11 [(0, .ref (E 0)), (1, .int v1), (2, .int v2), (3, .long v3), (8, .int v8), (9, .int v9), (10, .int v10)] → WI p l e rm_X10_bestMix s m args below meth c (LM ++ X) Y D E o H locs (F0 m 110 ls []) := by
  intro v1 v2 v3 v8 v9 v10 σ H locs ls h hP hS hl
  unfold f_X10_bestMix_110 at h
  obtain ⟨hC, hb, hml, hr, hlk, hD, hSW⟩ := id hF
  have hx := hC.1
  refine lv_ldcw (v := 100000) hx hb hC.2.2.1 (hC.2.1 (Cond.constant RX10 445 100000) (gw_t (tb8 (List.mem_of_getElem? (i := 102) rfl)) rfl)) dX10_bestMix_110 ?_
  refine lv_iload hx hb dX10_bestMix_113 (lv_at hl 4 rfl) ?_
  refine lv_imul hx hb dX10_bestMix_115 ?_
  refine lv_sipush (v := 1000) hx hb dX10_bestMix_116 (by decide) ?_
  refine lv_iload hx hb dX10_bestMix_119 (lv_at hl 5 rfl) ?_
  refine lv_imul hx hb dX10_bestMix_121 ?_
  refine lv_iadd hx hb dX10_bestMix_122 ?_
  refine lv_iload hx hb dX10_bestMix_123 (lv_at hl 6 rfl) ?_
  refine lv_iadd hx hb dX10_bestMix_125 ?_
  refine lv_topi (fun x1 ex1 => ?_)
  have h := of_lt h ex1
  refine lv_istore (lv' := [(5, .int x1), (0, .ref (E 0)), (1, .int v1), (2, .int v2), (3, .long v3), (8, .int v8), (9, .int v9), (10, .int v10)]) hx hb dX10_bestMix_126 hl (by decide) rfl (fun ls hl => ?_)
  refine lv_aload_n hx hb dX10_bestMix_128 rfl (lv_at hl 1 rfl) ?_
  refine lv_iload hx hb dX10_bestMix_129 (lv_at hl 5 rfl) ?_
  refine lv_iload hx hb dX10_bestMix_131 (lv_at hl 6 rfl) ?_
  refine lv_iload hx hb dX10_bestMix_133 (lv_at hl 7 rfl) ?_
  refine lv_iload_n hx hb dX10_bestMix_135 rfl (lv_at hl 2 rfl) ?_
  obtain ⟨r2, σ3, g4, h⟩ := of_bnd h
  refine x_VL (As := [.int v8, .int v9, .int v10, .int v1]) (rest := []) hF hl hP hS (c_X10_mixOf hX g4) (cw_X10_441 hC rfl rfl ⟨Nat.le_of_ble_eq_true rfl, Nat.le_of_ble_eq_true rfl⟩) (lm_0 X) rfl rfl rfl (Nat.le_of_ble_eq_true rfl) dX10_bestMix_136 ⟨Nat.zero_le _, Nat.zero_le _⟩ (fun H locs hP hS => ?_)
  refine lv_lstore (lv' := [(6, .long r2), (5, .int x1), (0, .ref (E 0)), (1, .int v1), (2, .int v2), (3, .long v3), (8, .int v8), (9, .int v9), (10, .int v10)]) hx hb dX10_bestMix_139 hl (by decide) rfl (fun ls hl => ?_)
  exact t_X10_bestMix_141 hX  hF k36 k49 k61 hk36 hk49 hk61 v1 v2 v3 x1 r2 v8 v9 v10 σ3 _ _ _ h hP hS (lv_sub hl [2, 3, 4, 5, 1, 0, 6, 7, 8] rfl)

def f_X10_bestMix_61 (k36 : Int32 → Int32 → Int64 → Int32 → Int64 → Int32 → Sta → Option (Int32 × Sta)) (k49 : Int32 → Int32 → Int64 → Int32 → Int64 → Int32 → Int32 → Sta → Option (Int32 × Sta)) : Nat → Int32 → Int32 → Int64 → Int32 → Int64 → Int32 → Int32 → Int32 → Sta → Option (Int32 × Sta)
  | 0, _, _, _, _, _, _, _, _, _ => none
  | n + 1, v1, v2, v3, v5, v6, v8, v9, v10, σ => if 100 < v10 then
      lt (v9 + 1) (fun x2 =>
      k49 v1 v2 v3 v5 v6 v8 x2 σ)
    else
      bnd (f_X10_mixOf v8 v9 v10 v2 σ) (fun r3 σ4 =>
      if lg_cmp r3 v3 < 0 then
        f_X10_bestMix_141 k36 k49 (f_X10_bestMix_61 k36 k49 n) v1 v2 v3 v5 v6 v8 v9 v10 σ4
      else
        if v5 = -1 then
          f_X10_bestMix_110 k36 k49 (f_X10_bestMix_61 k36 k49 n) v1 v2 v3 v8 v9 v10 σ4
        else
          bnd (f_X10_mixOf v8 v9 v10 v1 σ4) (fun r8 σ9 =>
          if 0 < lg_cmp r8 v6 then
            f_X10_bestMix_110 k36 k49 (f_X10_bestMix_61 k36 k49 n) v1 v2 v3 v8 v9 v10 σ9
          else
            f_X10_bestMix_141 k36 k49 (f_X10_bestMix_61 k36 k49 n) v1 v2 v3 v5 v6 v8 v9 v10 σ9))
set_option maxHeartbeats 4000000 in
set_option maxRecDepth 100000 in
theorem t_X10_bestMix_61 {l : Launch} {D : va_G} {Y : CYs} {E : Nat → Nat} {X : List Dsc} (hX : Lok (LM ++ X)) {p : Program} {e : Env} {s : State} {m : MethodId} {args : Array Value} {below : List Frame} {meth : Method} {c : Code} (hF : Fr p s m args meth c RX10 cX10_bestMix 11 (some .int) D Y E (LM ++ X)) {o : Int32 × Sta} (k36 : Int32 → Int32 → Int64 → Int32 → Int64 → Int32 → Sta → Option (Int32 × Sta)) (k49 : Int32 → Int32 → Int64 → Int32 → Int64 → Int32 → Int32 → Sta → Option (Int32 × Sta)) (hk36 : ∀ (v1 : Int32) (v2 : Int32) (v3 : Int64) (v5 : Int32) (v6 : Int64) (v8 : Int32) (σ : Sta) (H : Heap) (locs : List Loc) (ls : Array Slot), k36 v1 v2 v3 v5 v6 v8 σ = some o → va_P D vwCl (wd Y E σ 0 (LM ++ X)) H → va_S (AF E (LM ++ X).length s.heap.size) s.heap H locs → lv_has ls 11 [(0, .ref (E 0)), (1, .int v1), (2, .int v2), (3, .long v3), (5, .int v5), (6, .long v6), (8, .int v8)] → WI p l e rm_X10_bestMix s m args below meth c (LM ++ X) Y D E o H locs (F0 m 36 ls [])) (hk49 : ∀ (v1 : Int32) (v2 : Int32) (v3 : Int64) (v5 : Int32) (v6 : Int64) (v8 : Int32) (v9 : Int32) (σ : Sta) (H : Heap) (locs : List Loc) (ls : Array Slot), k49 v1 v2 v3 v5 v6 v8 v9 σ = some o → va_P D vwCl (wd Y E σ 0 (LM ++ X)) H → va_S (AF E (LM ++ X).length s.heap.size) s.heap H locs → lv_has ls 11 [(0, .ref (E 0)), (1, .int v1), (2, .int v2), (3, .long v3), (5, .int v5), (6, .long v6), (8, .int v8), (9, .int v9)] → WI p l e rm_X10_bestMix s m args below meth c (LM ++ X) Y D E o H locs (F0 m 49 ls [])) : ∀ (n : Nat) (v1 : Int32) (v2 : Int32) (v3 : Int64) (v5 : Int32) (v6 : Int64) (v8 : Int32) (v9 : Int32) (v10 : Int32) (σ : Sta) (H : Heap) (locs : List Loc) (ls : Array Slot), f_X10_bestMix_61 k36 k49 n v1 v2 v3 v5 v6 v8 v9 v10 σ = some o → va_P D vwCl (wd Y E σ 0 (LM ++ X)) H → va_S (AF E (LM ++ X).length s.heap.size) s.heap H locs → lv_has ls 11 [(0, .ref (E 0)), (1, .int v1), (2, .int v2), (3, .long v3), (5, .int v5), (6, .long v6), (8, .int v8), (9, .int v9), (10, .int v10)] → WI p l e rm_X10_bestMix s m args below meth c (LM ++ X) Y D E o H locs (F0 m 61 ls []) := by
  intro n
  induction n with
  | zero =>
    intro v1 v2 v3 v5 v6 v8 v9 v10 σ H locs ls h hP hS hl
    exact nomatch (show (none : Option (Int32 × Sta)) = some o from h)
  | succ n ih =>
    intro v1 v2 v3 v5 v6 v8 v9 v10 σ H locs ls h hP hS hl
    rw [f_X10_bestMix_61] at h
    obtain ⟨hC, hb, hml, hr, hlk, hD, hSW⟩ := id hF
    have hx := hC.1
    refine lv_iload hx hb dX10_bestMix_61 (lv_at hl 8 rfl) ?_
    refine lv_bipush (v := 100) hx hb dX10_bestMix_63 (by decide) ?_
    refine lv_icmp_gt (tgt := 147) hx hb dX10_bestMix_65 (by decide) (fun c1 => ?_) (fun c1 => ?_)
    · have h := of_t h c1
      obtain ⟨x2, ex2⟩ : ∃ y : Int32, y = v9 + 1 := ⟨_, rfl⟩
      have h := of_lt h ex2
      refine lv_iinc (v := x2) (lv' := [(9, .int x2), (0, .ref (E 0)), (1, .int v1), (2, .int v2), (3, .long v3), (5, .int v5), (6, .long v6), (8, .int v8), (10, .int v10)]) hx hb dX10_bestMix_147 hl (k := 7) rfl (by rw [ex2]; rfl) (by decide) rfl (fun ls hl => ?_)
      refine lv_goto (tgt := 49) hx hb dX10_bestMix_150 (by decide) ?_
      exact hk49 v1 v2 v3 v5 v6 v8 x2 σ _ _ _ h hP hS (lv_sub hl [1, 2, 3, 4, 5, 6, 7, 0] rfl)
    · have h := of_f h c1
      refine lv_aload_n hx hb dX10_bestMix_68 rfl (lv_at hl 0 rfl) ?_
      refine lv_iload hx hb dX10_bestMix_69 (lv_at hl 6 rfl) ?_
      refine lv_iload hx hb dX10_bestMix_71 (lv_at hl 7 rfl) ?_
      refine lv_iload hx hb dX10_bestMix_73 (lv_at hl 8 rfl) ?_
      refine lv_iload_n hx hb dX10_bestMix_75 rfl (lv_at hl 2 rfl) ?_
      obtain ⟨r3, σ4, g5, h⟩ := of_bnd h
      refine x_VL (As := [.int v8, .int v9, .int v10, .int v2]) (rest := []) hF hl hP hS (c_X10_mixOf hX g5) (cw_X10_441 hC rfl rfl ⟨Nat.le_of_ble_eq_true rfl, Nat.le_of_ble_eq_true rfl⟩) (lm_0 X) rfl rfl rfl (Nat.le_of_ble_eq_true rfl) dX10_bestMix_76 ⟨Nat.zero_le _, Nat.zero_le _⟩ (fun H locs hP hS => ?_)
      refine lv_lload_n hx hb dX10_bestMix_79 rfl (lv_at hl 3 rfl) ?_
      refine W.lcmp hx hb dX10_bestMix_80 ?_
      refine lv_if_lt (tgt := 141) hx hb dX10_bestMix_81 (by decide) (fun c6 => ?_) (fun c6 => ?_)
      · have h := of_t h c6
        exact t_X10_bestMix_141 hX  hF k36 k49 (f_X10_bestMix_61 k36 k49 n) hk36 hk49 ih v1 v2 v3 v5 v6 v8 v9 v10 σ4 _ _ _ h hP hS (lv_sub hl [0, 1, 2, 3, 4, 5, 6, 7, 8] rfl)
      · have h := of_f h c6
        refine lv_iload hx hb dX10_bestMix_84 (lv_at hl 4 rfl) ?_
        refine lv_iconst (v := -1) hx hb dX10_bestMix_86 (by decide) ?_
        refine lv_icmp_eq (tgt := 110) hx hb dX10_bestMix_87 (by decide) (fun c7 => ?_) (fun c7 => ?_)
        · have h := of_t h c7
          exact t_X10_bestMix_110 hX  hF k36 k49 (f_X10_bestMix_61 k36 k49 n) hk36 hk49 ih v1 v2 v3 v8 v9 v10 σ4 _ _ _ h hP hS (lv_sub hl [0, 1, 2, 3, 6, 7, 8] rfl)
        · have h := of_f h c7
          refine lv_aload_n hx hb dX10_bestMix_90 rfl (lv_at hl 0 rfl) ?_
          refine lv_iload hx hb dX10_bestMix_91 (lv_at hl 6 rfl) ?_
          refine lv_iload hx hb dX10_bestMix_93 (lv_at hl 7 rfl) ?_
          refine lv_iload hx hb dX10_bestMix_95 (lv_at hl 8 rfl) ?_
          refine lv_iload_n hx hb dX10_bestMix_97 rfl (lv_at hl 1 rfl) ?_
          obtain ⟨r8, σ9, g10, h⟩ := of_bnd h
          refine x_VL (As := [.int v8, .int v9, .int v10, .int v1]) (rest := []) hF hl hP hS (c_X10_mixOf hX g10) (cw_X10_441 hC rfl rfl ⟨Nat.le_of_ble_eq_true rfl, Nat.le_of_ble_eq_true rfl⟩) (lm_0 X) rfl rfl rfl (Nat.le_of_ble_eq_true rfl) dX10_bestMix_98 ⟨Nat.zero_le _, Nat.zero_le _⟩ (fun H locs hP hS => ?_)
          refine lv_lload hx hb dX10_bestMix_101 (lv_at hl 5 rfl) ?_
          refine W.lcmp hx hb dX10_bestMix_103 ?_
          refine lv_if_gt (tgt := 110) hx hb dX10_bestMix_104 (by decide) (fun c11 => ?_) (fun c11 => ?_)
          · have h := of_t h c11
            exact t_X10_bestMix_110 hX  hF k36 k49 (f_X10_bestMix_61 k36 k49 n) hk36 hk49 ih v1 v2 v3 v8 v9 v10 σ9 _ _ _ h hP hS (lv_sub hl [0, 1, 2, 3, 6, 7, 8] rfl)
          · have h := of_f h c11
            refine lv_goto (tgt := 141) hx hb dX10_bestMix_107 (by decide) ?_
            exact t_X10_bestMix_141 hX  hF k36 k49 (f_X10_bestMix_61 k36 k49 n) hk36 hk49 ih v1 v2 v3 v5 v6 v8 v9 v10 σ9 _ _ _ h hP hS (lv_sub hl [0, 1, 2, 3, 4, 5, 6, 7, 8] rfl)

def f_X10_bestMix_49 (k36 : Int32 → Int32 → Int64 → Int32 → Int64 → Int32 → Sta → Option (Int32 × Sta)) : Nat → Int32 → Int32 → Int64 → Int32 → Int64 → Int32 → Int32 → Sta → Option (Int32 × Sta)
  | 0, _, _, _, _, _, _, _, _ => none
  | n + 1, v1, v2, v3, v5, v6, v8, v9, σ => if gI σ 47 ≤ v9 then
      lt (v8 + 1) (fun x2 =>
      k36 v1 v2 v3 v5 v6 x2 σ)
    else
      f_X10_bestMix_61 k36 (f_X10_bestMix_49 k36 n) FU v1 v2 v3 v5 v6 v8 v9 0 σ
set_option maxHeartbeats 4000000 in
set_option maxRecDepth 100000 in
theorem t_X10_bestMix_49 {l : Launch} {D : va_G} {Y : CYs} {E : Nat → Nat} {X : List Dsc} (hX : Lok (LM ++ X)) {p : Program} {e : Env} {s : State} {m : MethodId} {args : Array Value} {below : List Frame} {meth : Method} {c : Code} (hF : Fr p s m args meth c RX10 cX10_bestMix 11 (some .int) D Y E (LM ++ X)) {o : Int32 × Sta} (k36 : Int32 → Int32 → Int64 → Int32 → Int64 → Int32 → Sta → Option (Int32 × Sta)) (hk36 : ∀ (v1 : Int32) (v2 : Int32) (v3 : Int64) (v5 : Int32) (v6 : Int64) (v8 : Int32) (σ : Sta) (H : Heap) (locs : List Loc) (ls : Array Slot), k36 v1 v2 v3 v5 v6 v8 σ = some o → va_P D vwCl (wd Y E σ 0 (LM ++ X)) H → va_S (AF E (LM ++ X).length s.heap.size) s.heap H locs → lv_has ls 11 [(0, .ref (E 0)), (1, .int v1), (2, .int v2), (3, .long v3), (5, .int v5), (6, .long v6), (8, .int v8)] → WI p l e rm_X10_bestMix s m args below meth c (LM ++ X) Y D E o H locs (F0 m 36 ls [])) : ∀ (n : Nat) (v1 : Int32) (v2 : Int32) (v3 : Int64) (v5 : Int32) (v6 : Int64) (v8 : Int32) (v9 : Int32) (σ : Sta) (H : Heap) (locs : List Loc) (ls : Array Slot), f_X10_bestMix_49 k36 n v1 v2 v3 v5 v6 v8 v9 σ = some o → va_P D vwCl (wd Y E σ 0 (LM ++ X)) H → va_S (AF E (LM ++ X).length s.heap.size) s.heap H locs → lv_has ls 11 [(0, .ref (E 0)), (1, .int v1), (2, .int v2), (3, .long v3), (5, .int v5), (6, .long v6), (8, .int v8), (9, .int v9)] → WI p l e rm_X10_bestMix s m args below meth c (LM ++ X) Y D E o H locs (F0 m 49 ls []) := by
  intro n
  induction n with
  | zero =>
    intro v1 v2 v3 v5 v6 v8 v9 σ H locs ls h hP hS hl
    exact nomatch (show (none : Option (Int32 × Sta)) = some o from h)
  | succ n ih =>
    intro v1 v2 v3 v5 v6 v8 v9 σ H locs ls h hP hS hl
    rw [f_X10_bestMix_49] at h
    obtain ⟨hC, hb, hml, hr, hlk, hD, hSW⟩ := id hF
    have hx := hC.1
    refine lv_iload hx hb dX10_bestMix_49 (lv_at hl 7 rfl) ?_
    refine lv_aload_n hx hb dX10_bestMix_51 rfl (lv_at hl 0 rfl) ?_
    refine gf_X10_216 hC hb hP dX10_bestMix_52 ?_
    refine lv_icmp_ge (tgt := 153) hx hb dX10_bestMix_55 (by decide) (fun c1 => ?_) (fun c1 => ?_)
    · have h := of_t h c1
      obtain ⟨x2, ex2⟩ : ∃ y : Int32, y = v8 + 1 := ⟨_, rfl⟩
      have h := of_lt h ex2
      refine lv_iinc (v := x2) (lv' := [(8, .int x2), (0, .ref (E 0)), (1, .int v1), (2, .int v2), (3, .long v3), (5, .int v5), (6, .long v6), (9, .int v9)]) hx hb dX10_bestMix_153 hl (k := 6) rfl (by rw [ex2]; rfl) (by decide) rfl (fun ls hl => ?_)
      refine lv_goto (tgt := 36) hx hb dX10_bestMix_156 (by decide) ?_
      exact hk36 v1 v2 v3 v5 v6 x2 σ _ _ _ h hP hS (lv_sub hl [1, 2, 3, 4, 5, 6, 0] rfl)
    · have h := of_f h c1
      refine lv_iconst (v := 0) hx hb dX10_bestMix_58 (by decide) ?_
      refine lv_istore (lv' := [(10, .int 0), (0, .ref (E 0)), (1, .int v1), (2, .int v2), (3, .long v3), (5, .int v5), (6, .long v6), (8, .int v8), (9, .int v9)]) hx hb dX10_bestMix_59 hl (by decide) rfl (fun ls hl => ?_)
      exact t_X10_bestMix_61 hX  hF k36 (f_X10_bestMix_49 k36 n) hk36 ih FU v1 v2 v3 v5 v6 v8 v9 0 σ _ _ _ h hP hS (lv_sub hl [1, 2, 3, 4, 5, 6, 7, 8, 0] rfl)

def f_X10_bestMix_36 : Nat → Int32 → Int32 → Int64 → Int32 → Int64 → Int32 → Sta → Option (Int32 × Sta)
  | 0, _, _, _, _, _, _, _ => none
  | n + 1, v1, v2, v3, v5, v6, v8, σ => if gI σ 47 ≤ v8 then
      some (v5, σ)
    else
      f_X10_bestMix_49 (f_X10_bestMix_36 n) FU v1 v2 v3 v5 v6 v8 v8 σ
set_option maxHeartbeats 4000000 in
set_option maxRecDepth 100000 in
theorem t_X10_bestMix_36 {l : Launch} {D : va_G} {Y : CYs} {E : Nat → Nat} {X : List Dsc} (hX : Lok (LM ++ X)) {p : Program} {e : Env} {s : State} {m : MethodId} {args : Array Value} {below : List Frame} {meth : Method} {c : Code} (hF : Fr p s m args meth c RX10 cX10_bestMix 11 (some .int) D Y E (LM ++ X)) {o : Int32 × Sta} : ∀ (n : Nat) (v1 : Int32) (v2 : Int32) (v3 : Int64) (v5 : Int32) (v6 : Int64) (v8 : Int32) (σ : Sta) (H : Heap) (locs : List Loc) (ls : Array Slot), f_X10_bestMix_36 n v1 v2 v3 v5 v6 v8 σ = some o → va_P D vwCl (wd Y E σ 0 (LM ++ X)) H → va_S (AF E (LM ++ X).length s.heap.size) s.heap H locs → lv_has ls 11 [(0, .ref (E 0)), (1, .int v1), (2, .int v2), (3, .long v3), (5, .int v5), (6, .long v6), (8, .int v8)] → WI p l e rm_X10_bestMix s m args below meth c (LM ++ X) Y D E o H locs (F0 m 36 ls []) := by
  intro n
  induction n with
  | zero =>
    intro v1 v2 v3 v5 v6 v8 σ H locs ls h hP hS hl
    exact nomatch (show (none : Option (Int32 × Sta)) = some o from h)
  | succ n ih =>
    intro v1 v2 v3 v5 v6 v8 σ H locs ls h hP hS hl
    rw [f_X10_bestMix_36] at h
    obtain ⟨hC, hb, hml, hr, hlk, hD, hSW⟩ := id hF
    have hx := hC.1
    refine lv_iload hx hb dX10_bestMix_36 (lv_at hl 6 rfl) ?_
    refine lv_aload_n hx hb dX10_bestMix_38 rfl (lv_at hl 0 rfl) ?_
    refine gf_X10_216 hC hb hP dX10_bestMix_39 ?_
    refine lv_icmp_ge (tgt := 159) hx hb dX10_bestMix_42 (by decide) (fun c1 => ?_) (fun c1 => ?_)
    · have h := of_t h c1
      refine lv_iload hx hb dX10_bestMix_159 (lv_at hl 4 rfl) ?_
      exact x_iret hF hP hS h dX10_bestMix_161
    · have h := of_f h c1
      refine lv_iload hx hb dX10_bestMix_45 (lv_at hl 6 rfl) ?_
      refine lv_istore (lv' := [(9, .int v8), (0, .ref (E 0)), (1, .int v1), (2, .int v2), (3, .long v3), (5, .int v5), (6, .long v6), (8, .int v8)]) hx hb dX10_bestMix_47 hl (by decide) rfl (fun ls hl => ?_)
      exact t_X10_bestMix_49 hX  hF (f_X10_bestMix_36 n) ih FU v1 v2 v3 v5 v6 v8 v8 σ _ _ _ h hP hS (lv_sub hl [1, 2, 3, 4, 5, 6, 7, 0] rfl)

def f_X10_bestMix (a1 : Int32) (a2 : Int32) (a3 : Int64) (σ : Sta) : Option (Int32 × Sta) :=
  lt (sI σ 0 0) (fun σ1 =>
  bnd (f_X10_isGain a1 σ1) (fun r2 σ3 =>
  if r2 = 0 then
    f_X10_bestMix_21 σ3
  else
    bnd (f_X10_isGain a2 σ3) (fun r6 σ7 =>
    if r6 = 0 then
      f_X10_bestMix_21 σ7
    else
      lt (-1) (fun x10 =>
      f_X10_bestMix_36 FU a1 a2 a3 x10 0 0 σ7))))
set_option maxHeartbeats 4000000 in
set_option maxRecDepth 100000 in
theorem c_X10_bestMix {l : Launch} {D : va_G} {Y : CYs} {E : Nat → Nat} {X : List Dsc} (hX : Lok (LM ++ X)) {a1 : Int32} {a2 : Int32} {a3 : Int64} {σ : Sta} {o : Int32 × Sta} (h : f_X10_bestMix a1 a2 a3 σ = some o) : MI l yX10_bestMix (Cond.code yX10_bestMix cX10_bestMix 11 (some .int) :: gW) rm_X10_bestMix (LM ++ X) Y D E [.ref (E 0), .int a1, .int a2, .long a3] σ o := by
  intro sz
  refine Met_of (Qc := fun sz => QI (LM ++ X) Y D E sz o) (by decide) (Nat.le_of_ble_eq_true rfl) (fun p e s m args below meth c hF hP ls hl => ?_) sz
  have hS : va_S (AF E (LM ++ X).length s.heap.size) s.heap s.heap [] := va_S.rf
  have hl : lv_has ls 11 [(0, .ref (E 0)), (1, .int a1), (2, .int a2), (3, .long a3)] := hl
  show WI p l e rm_X10_bestMix s m args below meth c (LM ++ X) Y D E o s.heap [] (F0 m 0 ls [])
  unfold f_X10_bestMix at h
  obtain ⟨hC, hb, hml, hr, hlk, hD, hSW⟩ := id hF
  have hx := hC.1
  refine lv_aload_n hx hb dX10_bestMix_0 rfl (lv_at hl 0 rfl) ?_
  refine lv_iconst (v := 0) hx hb dX10_bestMix_1 (by decide) ?_
  refine pf_X10_140 hX hC hb hP hD hS dX10_bestMix_2 (fun H locs σ1 eσ1 hP hS => ?_)
  have h := of_lt h eσ1
  refine lv_aload_n hx hb dX10_bestMix_5 rfl (lv_at hl 0 rfl) ?_
  refine lv_iload_n hx hb dX10_bestMix_6 rfl (lv_at hl 1 rfl) ?_
  obtain ⟨r2, σ3, g4, h⟩ := of_bnd h
  refine x_VI (As := [.int a1]) (rest := []) hF hl hP hS (c_X10_isGain hX g4) (cw_X10_419 hC rfl rfl ⟨Nat.le_of_ble_eq_true rfl, Nat.le_of_ble_eq_true rfl⟩) (lm_0 X) rfl rfl rfl (Nat.le_of_ble_eq_true rfl) dX10_bestMix_7 ⟨Nat.zero_le _, Nat.zero_le _⟩ (fun H locs hP hS => ?_)
  refine lv_if_eq (tgt := 21) hx hb dX10_bestMix_10 (by decide) (fun c5 => ?_) (fun c5 => ?_)
  · have h := of_t h c5
    exact t_X10_bestMix_21 hX  hF σ3 _ _ _ h hP hS (lv_sub hl [0] rfl)
  · have h := of_f h c5
    refine lv_aload_n hx hb dX10_bestMix_13 rfl (lv_at hl 0 rfl) ?_
    refine lv_iload_n hx hb dX10_bestMix_14 rfl (lv_at hl 2 rfl) ?_
    obtain ⟨r6, σ7, g8, h⟩ := of_bnd h
    refine x_VI (As := [.int a2]) (rest := []) hF hl hP hS (c_X10_isGain hX g8) (cw_X10_419 hC rfl rfl ⟨Nat.le_of_ble_eq_true rfl, Nat.le_of_ble_eq_true rfl⟩) (lm_0 X) rfl rfl rfl (Nat.le_of_ble_eq_true rfl) dX10_bestMix_15 ⟨Nat.zero_le _, Nat.zero_le _⟩ (fun H locs hP hS => ?_)
    refine lv_if_ne (tgt := 27) hx hb dX10_bestMix_18 (by decide) (fun c9 => ?_) (fun c9 => ?_)
    · have h := of_f h c9
      refine lv_iconst (v := -1) hx hb dX10_bestMix_27 (by decide) ?_
      refine lv_topi (fun x10 ex10 => ?_)
      have h := of_lt h ex10
      refine lv_istore (lv' := [(5, .int x10), (0, .ref (E 0)), (1, .int a1), (2, .int a2), (3, .long a3)]) hx hb dX10_bestMix_28 hl (by decide) rfl (fun ls hl => ?_)
      refine lv_lconst (v := 0) hx hb dX10_bestMix_30 (by decide) ?_
      refine lv_lstore (lv' := [(6, .long 0), (5, .int x10), (0, .ref (E 0)), (1, .int a1), (2, .int a2), (3, .long a3)]) hx hb dX10_bestMix_31 hl (by decide) rfl (fun ls hl => ?_)
      refine lv_iconst (v := 0) hx hb dX10_bestMix_33 (by decide) ?_
      refine lv_istore (lv' := [(8, .int 0), (6, .long 0), (5, .int x10), (0, .ref (E 0)), (1, .int a1), (2, .int a2), (3, .long a3)]) hx hb dX10_bestMix_34 hl (by decide) rfl (fun ls hl => ?_)
      exact t_X10_bestMix_36 hX  hF FU a1 a2 a3 x10 0 0 σ7 _ _ _ h hP hS (lv_sub hl [3, 4, 5, 6, 2, 1, 0] rfl)
    · have h := of_t h c9
      exact t_X10_bestMix_21 hX  hF σ7 _ _ _ h hP hS (lv_sub hl [0] rfl)
