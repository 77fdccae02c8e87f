theorem cw_X10_438 {R : Room} {p : Program} {s : State} {m : MethodId} {args : Array Value} {D : va_G} {Y : CYs} {rm : Room} (hC : Ctx p s m args RX10 D Y) (hrc : rm.cells = 0) (hrs : rm.slots = 0) (hR : rm.frames + 1 ≤ R.frames ∧ 8 + (5 + 11) + rm.locals ≤ R.locals) : CallW R s args RX10 RX10 438 yX10_bringsTheSame cX10_bringsTheSame 5 (some .boolean) (Cond.code yX10_bringsTheSame cX10_bringsTheSame 5 (some .boolean) :: gW) rm 0 0 2 :=
  cwV 2 hC.2.1 (gi_V (gw_t (tb8 (List.mem_of_getElem? (i := 86) rfl)) rfl) (gw_t (tb8 (List.mem_of_getElem? (i := 88) rfl)) rfl) (gw_s (q := (⟨"MarkovBenchModel", "bringsTheSame", "(II)Z"⟩, 57)) (lp7_ (List.mem_of_getElem? (i := 14) rfl))) (gw_t (tb1 (List.mem_of_getElem? (i := 10) rfl)) rfl) (gw_t (tb8 (List.mem_of_getElem? (i := 89) rfl)) rfl)) rfl hrc hrs ⟨rfl, by decide +kernel, by decide +kernel, by decide +kernel⟩ hR
abbrev rm_X10_sweep : Room := { frames := 4, cells := 1, slots := 3, locals := 105 }
def f_X10_sweep_21 (σ : Sta) : Option (Int32 × Sta) :=
  bnd (f_X10_fail 1 σ) (fun r1 σ2 =>
  some (r1, σ2))
set_option maxHeartbeats 4000000 in
set_option maxRecDepth 100000 in
theorem t_X10_sweep_21 {l : Launch} {D : va_G} {Y : CYs} {E : Nat → Nat} (hX : Lok LM0) {p : Program} {e : Env} {s : State} {m : MethodId} {args : Array Value} {below : List Frame} {meth : Method} {c : Code} (hF : Fr p s m args meth c RX10 cX10_sweep 10 (some .int) D Y E LM0) {o : Int32 × Sta} : ∀ (σ : Sta) (H : Heap) (locs : List Loc) (ls : Array Slot), f_X10_sweep_21 σ = some o → va_P D vwCl (wd Y E σ 0 LM0) H → va_S (AF E LM0.length s.heap.size) s.heap H locs → lv_has ls 10 [(0, .ref (E 0))] → W p l e rm_X10_sweep s m args below meth c H locs 0 0 (MQ below (QI LM0 Y D E s.heap.size o) args s 1 3 (AF E LM0.length s.heap.size)) (F0 m 21 ls []) := by
  intro σ H locs ls h hP hS hl
  unfold f_X10_sweep_21 at h
  obtain ⟨hC, hb, hml, hr, hlk, hD, hSW⟩ := id hF
  have hx := hC.1
  refine lv_aload_n hx hb dX10_sweep_21 rfl (lv_at hl 0 rfl) ?_
  refine lv_iconst (v := 1) hx hb dX10_sweep_22 (by decide) ?_
  obtain ⟨r1, σ2, g3, h⟩ := of_bnd h
  refine x_VI (As := [.int 1]) (rest := []) hF hl hP hS (c_X10_fail hX g3) (cw_X10_146 hC rfl rfl ⟨Nat.le_of_ble_eq_true rfl, Nat.le_of_ble_eq_true rfl⟩) (lm_0 _) rfl rfl rfl (Nat.le_of_ble_eq_true rfl) dX10_sweep_23 ⟨Nat.le_of_ble_eq_true rfl, Nat.le_of_ble_eq_true rfl⟩ (fun H locs hP hS => ?_)
  refine W.widen (k := 1) (n := 3) (Nat.zero_le _) (Nat.zero_le _) ?_
  exact x_iret hF hP hS h dX10_sweep_26

def f_X10_sweep_57 (σ : Sta) : Option (Int32 × Sta) :=
  bnd (f_X10_fail 2 σ) (fun r1 σ2 =>
  some (r1, σ2))
set_option maxHeartbeats 4000000 in
set_option maxRecDepth 100000 in
theorem t_X10_sweep_57 {l : Launch} {D : va_G} {Y : CYs} {E : Nat → Nat} (hX : Lok LM0) {p : Program} {e : Env} {s : State} {m : MethodId} {args : Array Value} {below : List Frame} {meth : Method} {c : Code} (hF : Fr p s m args meth c RX10 cX10_sweep 10 (some .int) D Y E LM0) {o : Int32 × Sta} : ∀ (σ : Sta) (H : Heap) (locs : List Loc) (ls : Array Slot), f_X10_sweep_57 σ = some o → va_P D vwCl (wd Y E σ 0 LM0) H → va_S (AF E LM0.length s.heap.size) s.heap H locs → lv_has ls 10 [(0, .ref (E 0))] → W p l e rm_X10_sweep s m args below meth c H locs 0 0 (MQ below (QI LM0 Y D E s.heap.size o) args s 1 3 (AF E LM0.length s.heap.size)) (F0 m 57 ls []) := by
  intro σ H locs ls h hP hS hl
  unfold f_X10_sweep_57 at h
  obtain ⟨hC, hb, hml, hr, hlk, hD, hSW⟩ := id hF
  have hx := hC.1
  refine lv_aload_n hx hb dX10_sweep_57 rfl (lv_at hl 0 rfl) ?_
  refine lv_iconst (v := 2) hx hb dX10_sweep_58 (by decide) ?_
  obtain ⟨r1, σ2, g3, h⟩ := of_bnd h
  refine x_VI (As := [.int 2]) (rest := []) hF hl hP hS (c_X10_fail hX g3) (cw_X10_146 hC rfl rfl ⟨Nat.le_of_ble_eq_true rfl, Nat.le_of_ble_eq_true rfl⟩) (lm_0 _) rfl rfl rfl (Nat.le_of_ble_eq_true rfl) dX10_sweep_59 ⟨Nat.le_of_ble_eq_true rfl, Nat.le_of_ble_eq_true rfl⟩ (fun H locs hP hS => ?_)
  refine W.widen (k := 1) (n := 3) (Nat.zero_le _) (Nat.zero_le _) ?_
  exact x_iret hF hP hS h dX10_sweep_62

def f_X10_sweep_141 (k77 : Int32 → Int32 → Int32 → Int32 → Int32 → Int32 → Sta → Option (Int32 × Sta)) (k113 : Int32 → Int32 → Int32 → Int32 → Int32 → Int32 → Int32 → Int32 → Sta → Option (Int32 × Sta)) (v1 : Int32) (v2 : Int32) (v3 : Int32) (v4 : Int32) (v5 : Int32) (v7 : Int32) (v9 : Int32) (s0 : Int32) (σ : Sta) : Option (Int32 × Sta) :=
  lt (v9 + 1) (fun x1 =>
  k113 v1 v2 v3 v4 v5 v7 s0 x1 σ)
set_option maxHeartbeats 4000000 in
set_option maxRecDepth 100000 in
theorem t_X10_sweep_141 {l : Launch} {D : va_G} {Y : CYs} {E : Nat → Nat} (hX : Lok LM1) {p : Program} {e : Env} {s : State} {m : MethodId} {args : Array Value} {below : List Frame} {meth : Method} {c : Code} (hF : Fr p s m args meth c RX10 cX10_sweep 10 (some .int) D Y E LM1) {o : Int32 × Sta} (k77 : Int32 → Int32 → Int32 → Int32 → Int32 → Int32 → Sta → Option (Int32 × Sta)) (k113 : Int32 → Int32 → Int32 → Int32 → Int32 → Int32 → Int32 → Int32 → Sta → Option (Int32 × Sta)) (hk77 : ∀ (v1 : Int32) (v2 : Int32) (v3 : Int32) (v4 : Int32) (v5 : Int32) (v7 : Int32) (σ : Sta) (H : Heap) (locs : List Loc) (ls : Array Slot), k77 v1 v2 v3 v4 v5 v7 σ = some o → va_P D vwCl (wd Y E σ 0 LM1) H → va_S (AF E LM1.length s.heap.size) s.heap H locs → lv_has ls 10 [(0, .ref (E 0)), (1, .int v1), (2, .int v2), (3, .int v3), (4, .int v4), (5, .int v5), (6, .ref (E 38)), (7, .int v7)] → W p l e rm_X10_sweep s m args below meth c H locs 1 3 (MQ below (QI LM1 Y D E s.heap.size o) args s 1 3 (AF E LM1.length s.heap.size)) (F0 m 77 ls [])) (hk113 : ∀ (v1 : Int32) (v2 : Int32) (v3 : Int32) (v4 : Int32) (v5 : Int32) (v7 : Int32) (v8 : Int32) (v9 : Int32) (σ : Sta) (H : Heap) (locs : List Loc) (ls : Array Slot), k113 v1 v2 v3 v4 v5 v7 v8 v9 σ = some o → va_P D vwCl (wd Y E σ 0 LM1) H → va_S (AF E LM1.length s.heap.size) s.heap H locs → lv_has ls 10 [(0, .ref (E 0)), (1, .int v1), (2, .int v2), (3, .int v3), (4, .int v4), (5, .int v5), (6, .ref (E 38)), (7, .int v7), (8, .int v8), (9, .int v9)] → W p l e rm_X10_sweep s m args below meth c H locs 1 3 (MQ below (QI LM1 Y D E s.heap.size o) args s 1 3 (AF E LM1.length s.heap.size)) (F0 m 113 ls [])) : ∀ (v1 : Int32) (v2 : Int32) (v3 : Int32) (v4 : Int32) (v5 : Int32) (v7 : Int32) (v9 : Int32) (s0 : Int32) (σ : Sta) (H : Heap) (locs : List Loc) (ls : Array Slot), f_X10_sweep_141 k77 k113 v1 v2 v3 v4 v5 v7 v9 s0 σ = some o → va_P D vwCl (wd Y E σ 0 LM1) H → va_S (AF E LM1.length s.heap.size) s.heap H locs → lv_has ls 10 [(0, .ref (E 0)), (1, .int v1), (2, .int v2), (3, .int v3), (4, .int v4), (5, .int v5), (6, .ref (E 38)), (7, .int v7), (9, .int v9)] → W p l e rm_X10_sweep s m args below meth c H locs 1 3 (MQ below (QI LM1 Y D E s.heap.size o) args s 1 3 (AF E LM1.length s.heap.size)) (F0 m 141 ls [.int s0]) := by
  intro v1 v2 v3 v4 v5 v7 v9 s0 σ H locs ls h hP hS hl
  unfold f_X10_sweep_141 at h
  obtain ⟨hC, hb, hml, hr, hlk, hD, hSW⟩ := id hF
  have hx := hC.1
  refine lv_istore (lv' := [(8, .int s0), (0, .ref (E 0)), (1, .int v1), (2, .int v2), (3, .int v3), (4, .int v4), (5, .int v5), (6, .ref (E 38)), (7, .int v7), (9, .int v9)]) hx hb dX10_sweep_141 hl (by decide) rfl (fun ls hl => ?_)
  obtain ⟨x1, ex1⟩ : ∃ y : Int32, y = v9 + 1 := ⟨_, rfl⟩
  have h := of_lt h ex1
  refine lv_iinc (v := x1) (lv' := [(9, .int x1), (8, .int s0), (0, .ref (E 0)), (1, .int v1), (2, .int v2), (3, .int v3), (4, .int v4), (5, .int v5), (6, .ref (E 38)), (7, .int v7)]) hx hb dX10_sweep_143 hl (k := 9) rfl (by rw [ex1]; rfl) (by decide) rfl (fun ls hl => ?_)
  refine lv_goto (tgt := 113) hx hb dX10_sweep_146 (by decide) ?_
  exact hk113 v1 v2 v3 v4 v5 v7 s0 x1 σ _ _ _ h hP hS (lv_sub hl [2, 3, 4, 5, 6, 7, 8, 9, 1, 0] rfl)

def f_X10_sweep_140 (k77 : Int32 → Int32 → Int32 → Int32 → Int32 → Int32 → Sta → Option (Int32 × Sta)) (k113 : Int32 → Int32 → Int32 → Int32 → Int32 → Int32 → Int32 → Int32 → Sta → Option (Int32 × Sta)) (v1 : Int32) (v2 : Int32) (v3 : Int32) (v4 : Int32) (v5 : Int32) (v7 : Int32) (v9 : Int32) (σ : Sta) : Option (Int32 × Sta) :=
  f_X10_sweep_141 k77 k113 v1 v2 v3 v4 v5 v7 v9 0 σ
set_option maxHeartbeats 4000000 in
set_option maxRecDepth 100000 in
theorem t_X10_sweep_140 {l : Launch} {D : va_G} {Y : CYs} {E : Nat → Nat} (hX : Lok LM1) {p : Program} {e : Env} {s : State} {m : MethodId} {args : Array Value} {below : List Frame} {meth : Method} {c : Code} (hF : Fr p s m args meth c RX10 cX10_sweep 10 (some .int) D Y E LM1) {o : Int32 × Sta} (k77 : Int32 → Int32 → Int32 → Int32 → Int32 → Int32 → Sta → Option (Int32 × Sta)) (k113 : Int32 → Int32 → Int32 → Int32 → Int32 → Int32 → Int32 → Int32 → Sta → Option (Int32 × Sta)) (hk77 : ∀ (v1 : Int32) (v2 : Int32) (v3 : Int32) (v4 : Int32) (v5 : Int32) (v7 : Int32) (σ : Sta) (H : Heap) (locs : List Loc) (ls : Array Slot), k77 v1 v2 v3 v4 v5 v7 σ = some o → va_P D vwCl (wd Y E σ 0 LM1) H → va_S (AF E LM1.length s.heap.size) s.heap H locs → lv_has ls 10 [(0, .ref (E 0)), (1, .int v1), (2, .int v2), (3, .int v3), (4, .int v4), (5, .int v5), (6, .ref (E 38)), (7, .int v7)] → W p l e rm_X10_sweep s m args below meth c H locs 1 3 (MQ below (QI LM1 Y D E s.heap.size o) args s 1 3 (AF E LM1.length s.heap.size)) (F0 m 77 ls [])) (hk113 : ∀ (v1 : Int32) (v2 : Int32) (v3 : Int32) (v4 : Int32) (v5 : Int32) (v7 : Int32) (v8 : Int32) (v9 : Int32) (σ : Sta) (H : Heap) (locs : List Loc) (ls : Array Slot), k113 v1 v2 v3 v4 v5 v7 v8 v9 σ = some o → va_P D vwCl (wd Y E σ 0 LM1) H → va_S (AF E LM1.length s.heap.size) s.heap H locs → lv_has ls 10 [(0, .ref (E 0)), (1, .int v1), (2, .int v2), (3, .int v3), (4, .int v4), (5, .int v5), (6, .ref (E 38)), (7, .int v7), (8, .int v8), (9, .int v9)] → W p l e rm_X10_sweep s m args below meth c H locs 1 3 (MQ below (QI LM1 Y D E s.heap.size o) args s 1 3 (AF E LM1.length s.heap.size)) (F0 m 113 ls [])) : ∀ (v1 : Int32) (v2 : Int32) (v3 : Int32) (v4 : Int32) (v5 : Int32) (v7 : Int32) (v9 : Int32) (σ : Sta) (H : Heap) (locs : List Loc) (ls : Array Slot), f_X10_sweep_140 k77 k113 v1 v2 v3 v4 v5 v7 v9 σ = some o → va_P D vwCl (wd Y E σ 0 LM1) H → va_S (AF E LM1.length s.heap.size) s.heap H locs → lv_has ls 10 [(0, .ref (E 0)), (1, .int v1), (2, .int v2), (3, .int v3), (4, .int v4), (5, .int v5), (6, .ref (E 38)), (7, .int v7), (9, .int v9)] → W p l e rm_X10_sweep s m args below meth c H locs 1 3 (MQ below (QI LM1 Y D E s.heap.size o) args s 1 3 (AF E LM1.length s.heap.size)) (F0 m 140 ls []) := by
  intro v1 v2 v3 v4 v5 v7 v9 σ H locs ls h hP hS hl
  unfold f_X10_sweep_140 at h
  obtain ⟨hC, hb, hml, hr, hlk, hD, hSW⟩ := id hF
  have hx := hC.1
  refine lv_iconst (v := 0) hx hb dX10_sweep_140 (by decide) ?_
  exact t_X10_sweep_141 hX  hF k77 k113 hk77 hk113 v1 v2 v3 v4 v5 v7 v9 0 σ _ _ _ h hP hS (lv_sub hl [0, 1, 2, 3, 4, 5, 6, 7, 8] rfl)

def f_X10_sweep_161 (k77 : Int32 → Int32 → Int32 → Int32 → Int32 → Int32 → Sta → Option (Int32 × Sta)) (v1 : Int32) (v2 : Int32) (v3 : Int32) (v4 : Int32) (v7 : Int32) (s0 : Int32) (s1 : Int32) (σ : Sta) : Option (Int32 × Sta) :=
  lt (s1 + s0) (fun x1 =>
  lt (v7 + 1) (fun x2 =>
  k77 v1 v2 v3 v4 x1 x2 σ))
set_option maxHeartbeats 4000000 in
set_option maxRecDepth 100000 in
theorem t_X10_sweep_161 {l : Launch} {D : va_G} {Y : CYs} {E : Nat → Nat} (hX : Lok LM1) {p : Program} {e : Env} {s : State} {m : MethodId} {args : Array Value} {below : List Frame} {meth : Method} {c : Code} (hF : Fr p s m args meth c RX10 cX10_sweep 10 (some .int) D Y E LM1) {o : Int32 × Sta} (k77 : Int32 → Int32 → Int32 → Int32 → Int32 → Int32 → Sta → Option (Int32 × Sta)) (hk77 : ∀ (v1 : Int32) (v2 : Int32) (v3 : Int32) (v4 : Int32) (v5 : Int32) (v7 : Int32) (σ : Sta) (H : Heap) (locs : List Loc) (ls : Array Slot), k77 v1 v2 v3 v4 v5 v7 σ = some o → va_P D vwCl (wd Y E σ 0 LM1) H → va_S (AF E LM1.length s.heap.size) s.heap H locs → lv_has ls 10 [(0, .ref (E 0)), (1, .int v1), (2, .int v2), (3, .int v3), (4, .int v4), (5, .int v5), (6, .ref (E 38)), (7, .int v7)] → W p l e rm_X10_sweep s m args below meth c H locs 1 3 (MQ below (QI LM1 Y D E s.heap.size o) args s 1 3 (AF E LM1.length s.heap.size)) (F0 m 77 ls [])) : ∀ (v1 : Int32) (v2 : Int32) (v3 : Int32) (v4 : Int32) (v7 : Int32) (s0 : Int32) (s1 : Int32) (σ : Sta) (H : Heap) (locs : List Loc) (ls : Array Slot), f_X10_sweep_161 k77 v1 v2 v3 v4 v7 s0 s1 σ = some o → va_P D vwCl (wd Y E σ 0 LM1) H → va_S (AF E LM1.length s.heap.size) s.heap H locs → lv_has ls 10 [(0, .ref (E 0)), (1, .int v1), (2, .int v2), (3, .int v3), (4, .int v4), (6, .ref (E 38)), (7, .int v7)] → W p l e rm_X10_sweep s m args below meth c H locs 1 3 (MQ below (QI LM1 Y D E s.heap.size o) args s 1 3 (AF E LM1.length s.heap.size)) (F0 m 161 ls [.int s0, .int s1]) := by
  intro v1 v2 v3 v4 v7 s0 s1 σ H locs ls h hP hS hl
  unfold f_X10_sweep_161 at h
  obtain ⟨hC, hb, hml, hr, hlk, hD, hSW⟩ := id hF
  have hx := hC.1
  refine lv_iadd hx hb dX10_sweep_161 ?_
  refine lv_topi (fun x1 ex1 => ?_)
  have h := of_lt h ex1
  refine lv_istore (lv' := [(5, .int x1), (0, .ref (E 0)), (1, .int v1), (2, .int v2), (3, .int v3), (4, .int v4), (6, .ref (E 38)), (7, .int v7)]) hx hb dX10_sweep_162 hl (by decide) rfl (fun ls hl => ?_)
  obtain ⟨x2, ex2⟩ : ∃ y : Int32, y = v7 + 1 := ⟨_, rfl⟩
  have h := of_lt h ex2
  refine lv_iinc (v := x2) (lv' := [(7, .int x2), (5, .int x1), (0, .ref (E 0)), (1, .int v1), (2, .int v2), (3, .int v3), (4, .int v4), (6, .ref (E 38))]) hx hb dX10_sweep_164 hl (k := 7) rfl (by rw [ex2]; rfl) (by decide) rfl (fun ls hl => ?_)
  refine lv_goto (tgt := 77) hx hb dX10_sweep_167 (by decide) ?_
  exact hk77 v1 v2 v3 v4 x1 x2 σ _ _ _ h hP hS (lv_sub hl [2, 3, 4, 5, 6, 1, 7, 0] rfl)

def f_X10_sweep_113 (k77 : Int32 → Int32 → Int32 → Int32 → Int32 → Int32 → Sta → Option (Int32 × Sta)) : Nat → Int32 → Int32 → Int32 → Int32 → Int32 → Int32 → Int32 → Int32 → Sta → Option (Int32 × Sta)
  | 0, _, _, _, _, _, _, _, _, _ => none
  | n + 1, v1, v2, v3, v4, v5, v7, v8, v9, σ => if v5 ≤ v9 then
      if v8 = 0 then
        f_X10_sweep_161 k77 v1 v2 v3 v4 v7 0 v5 σ
      else
        f_X10_sweep_161 k77 v1 v2 v3 v4 v7 1 v5 σ
    else
      if v8 = 0 then
        f_X10_sweep_140 k77 (f_X10_sweep_113 k77 n) v1 v2 v3 v4 v5 v7 v9 σ
      else
        bnd (f_X10_bringsTheSame v9 v5 σ) (fun r4 σ5 =>
        if r4 = 0 then
          f_X10_sweep_141 k77 (f_X10_sweep_113 k77 n) v1 v2 v3 v4 v5 v7 v9 1 σ5
        else
          f_X10_sweep_140 k77 (f_X10_sweep_113 k77 n) v1 v2 v3 v4 v5 v7 v9 σ5)
set_option maxHeartbeats 4000000 in
set_option maxRecDepth 100000 in
theorem t_X10_sweep_113 {l : Launch} {D : va_G} {Y : CYs} {E : Nat → Nat} (hX : Lok LM1) {p : Program} {e : Env} {s : State} {m : MethodId} {args : Array Value} {below : List Frame} {meth : Method} {c : Code} (hF : Fr p s m args meth c RX10 cX10_sweep 10 (some .int) D Y E LM1) {o : Int32 × Sta} (k77 : Int32 → Int32 → Int32 → Int32 → Int32 → Int32 → Sta → Option (Int32 × Sta)) (hk77 : ∀ (v1 : Int32) (v2 : Int32) (v3 : Int32) (v4 : Int32) (v5 : Int32) (v7 : Int32) (σ : Sta) (H : Heap) (locs : List Loc) (ls : Array Slot), k77 v1 v2 v3 v4 v5 v7 σ = some o → va_P D vwCl (wd Y E σ 0 LM1) H → va_S (AF E LM1.length s.heap.size) s.heap H locs → lv_has ls 10 [(0, .ref (E 0)), (1, .int v1), (2, .int v2), (3, .int v3), (4, .int v4), (5, .int v5), (6, .ref (E 38)), (7, .int v7)] → W p l e rm_X10_sweep s m args below meth c H locs 1 3 (MQ below (QI LM1 Y D E s.heap.size o) args s 1 3 (AF E LM1.length s.heap.size)) (F0 m 77 ls [])) : ∀ (n : Nat) (v1 : Int32) (v2 : Int32) (v3 : Int32) (v4 : Int32) (v5 : Int32) (v7 : Int32) (v8 : Int32) (v9 : Int32) (σ : Sta) (H : Heap) (locs : List Loc) (ls : Array Slot), f_X10_sweep_113 k77 n v1 v2 v3 v4 v5 v7 v8 v9 σ = some o → va_P D vwCl (wd Y E σ 0 LM1) H → va_S (AF E LM1.length s.heap.size) s.heap H locs → lv_has ls 10 [(0, .ref (E 0)), (1, .int v1), (2, .int v2), (3, .int v3), (4, .int v4), (5, .int v5), (6, .ref (E 38)), (7, .int v7), (8, .int v8), (9, .int v9)] → W p l e rm_X10_sweep s m args below meth c H locs 1 3 (MQ below (QI LM1 Y D E s.heap.size o) args s 1 3 (AF E LM1.length s.heap.size)) (F0 m 113 ls []) := by
  intro n
  induction n with
  | zero =>
    intro v1 v2 v3 v4 v5 v7 v8 v9 σ H locs ls h hP hS hl
    exact nomatch (show (none : Option (Int32 × Sta)) = some o from h)
  | succ n ih =>
    intro v1 v2 v3 v4 v5 v7 v8 v9 σ H locs ls h hP hS hl
    rw [f_X10_sweep_113] at h
    obtain ⟨hC, hb, hml, hr, hlk, hD, hSW⟩ := id hF
    have hx := hC.1
    refine lv_iload hx hb dX10_sweep_113 (lv_at hl 9 rfl) ?_
    refine lv_iload hx hb dX10_sweep_115 (lv_at hl 5 rfl) ?_
    refine lv_icmp_ge (tgt := 149) hx hb dX10_sweep_117 (by decide) (fun c1 => ?_) (fun c1 => ?_)
    · have h := of_t h c1
      refine lv_iload hx hb dX10_sweep_149 (lv_at hl 5 rfl) ?_
      refine lv_iload hx hb dX10_sweep_151 (lv_at hl 8 rfl) ?_
      refine lv_if_eq (tgt := 160) hx hb dX10_sweep_153 (by decide) (fun c2 => ?_) (fun c2 => ?_)
      · have h := of_t h c2
        refine lv_iconst (v := 0) hx hb dX10_sweep_160 (by decide) ?_
        exact t_X10_sweep_161 hX  hF k77 hk77 v1 v2 v3 v4 v7 0 v5 σ _ _ _ h hP hS (lv_sub hl [0, 1, 2, 3, 4, 6, 7] rfl)
      · have h := of_f h c2
        refine lv_iconst (v := 1) hx hb dX10_sweep_156 (by decide) ?_
        refine lv_goto (tgt := 161) hx hb dX10_sweep_157 (by decide) ?_
        exact t_X10_sweep_161 hX  hF k77 hk77 v1 v2 v3 v4 v7 1 v5 σ _ _ _ h hP hS (lv_sub hl [0, 1, 2, 3, 4, 6, 7] rfl)
    · have h := of_f h c1
      refine lv_iload hx hb dX10_sweep_120 (lv_at hl 8 rfl) ?_
      refine lv_if_eq (tgt := 140) hx hb dX10_sweep_122 (by decide) (fun c3 => ?_) (fun c3 => ?_)
      · have h := of_t h c3
        exact t_X10_sweep_140 hX  hF k77 (f_X10_sweep_113 k77 n) hk77 ih v1 v2 v3 v4 v5 v7 v9 σ _ _ _ h hP hS (lv_sub hl [0, 1, 2, 3, 4, 5, 6, 7, 9] rfl)
      · have h := of_f h c3
        refine lv_aload_n hx hb dX10_sweep_125 rfl (lv_at hl 0 rfl) ?_
        refine lv_iload hx hb dX10_sweep_126 (lv_at hl 9 rfl) ?_
        refine lv_iload hx hb dX10_sweep_128 (lv_at hl 5 rfl) ?_
        obtain ⟨r4, σ5, g6, h⟩ := of_bnd h
        refine x_VI (As := [.int v9, .int v5]) (rest := []) hF hl hP hS (c_X10_bringsTheSame hX g6) (cw_X10_438 hC rfl rfl ⟨Nat.le_of_ble_eq_true rfl, Nat.le_of_ble_eq_true rfl⟩) (lm_0 _) rfl rfl rfl (Nat.le_of_ble_eq_true rfl) dX10_sweep_130 ⟨Nat.le_of_ble_eq_true rfl, Nat.le_of_ble_eq_true rfl⟩ (fun H locs hP hS => ?_)
        refine lv_if_ne (tgt := 140) hx hb dX10_sweep_133 (by decide) (fun c7 => ?_) (fun c7 => ?_)
        · have h := of_f h c7
          exact t_X10_sweep_140 hX  hF k77 (f_X10_sweep_113 k77 n) hk77 ih v1 v2 v3 v4 v5 v7 v9 σ5 _ _ _ h hP hS (lv_sub hl [0, 1, 2, 3, 4, 5, 6, 7, 9] rfl)
        · have h := of_t h c7
          refine lv_iconst (v := 1) hx hb dX10_sweep_136 (by decide) ?_
          refine lv_goto (tgt := 141) hx hb dX10_sweep_137 (by decide) ?_
          exact t_X10_sweep_141 hX  hF k77 (f_X10_sweep_113 k77 n) hk77 ih v1 v2 v3 v4 v5 v7 v9 1 σ5 _ _ _ h hP hS (lv_sub hl [0, 1, 2, 3, 4, 5, 6, 7, 9] rfl)

def f_X10_sweep_77 : Nat → Int32 → Int32 → Int32 → Int32 → Int32 → Int32 → Sta → Option (Int32 × Sta)
  | 0, _, _, _, _, _, _, _ => none
  | n + 1, v1, v2, v3, v4, v5, v7, σ => if v3 < v7 then
      if v5 ≤ 12 then
        lt (gI σ 47) (fun x3 =>
        lt (sI σ 47 v5) (fun σ4 =>
        some (v5 - x3, σ4)))
      else
        bnd (f_X10_fail 3 σ) (fun r5 σ6 =>
        some (r5, σ6))
    else
      if v1 < 0 ∨ 3 ≤ (v1.toNatClampNeg) then none else (
      lt (sA σ 38 (upd (gA σ 38) (v1.toNatClampNeg) v7)) (fun σ9 =>
      if v2 < 0 ∨ 3 ≤ (v2.toNatClampNeg) then none else (
      lt (sA σ9 38 (upd (gA σ9 38) (v2.toNatClampNeg) (v3 - v7))) (fun σ11 =>
      bnd (f_X10_make v5 38 3 v4 σ11) (fun _ σ13 =>
      f_X10_sweep_113 (f_X10_sweep_77 n) FU v1 v2 v3 v4 v5 v7 1 0 σ13)))))
set_option maxHeartbeats 4000000 in
set_option maxRecDepth 100000 in
theorem t_X10_sweep_77 {l : Launch} {D : va_G} {Y : CYs} {E : Nat → Nat} (hX : Lok LM1) {p : Program} {e : Env} {s : State} {m : MethodId} {args : Array Value} {below : List Frame} {meth : Method} {c : Code} (hF : Fr p s m args meth c RX10 cX10_sweep 10 (some .int) D Y E LM1) {o : Int32 × Sta} : ∀ (n : Nat) (v1 : Int32) (v2 : Int32) (v3 : Int32) (v4 : Int32) (v5 : Int32) (v7 : Int32) (σ : Sta) (H : Heap) (locs : List Loc) (ls : Array Slot), f_X10_sweep_77 n v1 v2 v3 v4 v5 v7 σ = some o → va_P D vwCl (wd Y E σ 0 LM1) H → va_S (AF E LM1.length s.heap.size) s.heap H locs → lv_has ls 10 [(0, .ref (E 0)), (1, .int v1), (2, .int v2), (3, .int v3), (4, .int v4), (5, .int v5), (6, .ref (E 38)), (7, .int v7)] → W p l e rm_X10_sweep s m args below meth c H locs 1 3 (MQ below (QI LM1 Y D E s.heap.size o) args s 1 3 (AF E LM1.length s.heap.size)) (F0 m 77 ls []) := by
  intro n
  induction n with
  | zero =>
    intro v1 v2 v3 v4 v5 v7 σ H locs ls h hP hS hl
    exact nomatch (show (none : Option (Int32 × Sta)) = some o from h)
  | succ n ih =>
    intro v1 v2 v3 v4 v5 v7 σ H locs ls h hP hS hl
    rw [f_X10_sweep_77] at h
    obtain ⟨hC, hb, hml, hr, hlk, hD, hSW⟩ := id hF
    have hx := hC.1
    refine lv_iload hx hb dX10_sweep_77 (lv_at hl 7 rfl) ?_
    refine lv_iload_n hx hb dX10_sweep_79 rfl (lv_at hl 3 rfl) ?_
    refine lv_icmp_gt (tgt := 170) hx hb dX10_sweep_80 (by decide) (fun c1 => ?_) (fun c1 => ?_)
    · have h := of_t h c1
      refine lv_iload hx hb dX10_sweep_170 (lv_at hl 5 rfl) ?_
      refine lv_bipush (v := 12) hx hb dX10_sweep_172 (by decide) ?_
      refine lv_icmp_le (tgt := 183) hx hb dX10_sweep_174 (by decide) (fun c2 => ?_) (fun c2 => ?_)
      · have h := of_t h c2
        refine lv_aload_n hx hb dX10_sweep_183 rfl (lv_at hl 0 rfl) ?_
        refine gf_X10_216 hC hb hP dX10_sweep_184 ?_
        refine lv_topi (fun x3 ex3 => ?_)
        have h := of_lt h ex3
        refine lv_istore (lv' := [(7, .int x3), (0, .ref (E 0)), (1, .int v1), (2, .int v2), (3, .int v3), (4, .int v4), (5, .int v5), (6, .ref (E 38))]) hx hb dX10_sweep_187 hl (by decide) rfl (fun ls hl => ?_)
        refine lv_aload_n hx hb dX10_sweep_189 rfl (lv_at hl 1 rfl) ?_
        refine lv_iload hx hb dX10_sweep_190 (lv_at hl 6 rfl) ?_
        refine pf_X10_216 hX hC hb hP hD hS dX10_sweep_192 (fun H locs σ4 eσ4 hP hS => ?_)
        have h := of_lt h eσ4
        refine lv_iload hx hb dX10_sweep_195 (lv_at hl 6 rfl) ?_
        refine lv_iload hx hb dX10_sweep_197 (lv_at hl 0 rfl) ?_
        refine lv_isub hx hb dX10_sweep_199 ?_
        exact x_iret hF hP hS h dX10_sweep_200
      · have h := of_f h c2
        refine lv_aload_n hx hb dX10_sweep_177 rfl (lv_at hl 0 rfl) ?_
        refine lv_iconst (v := 3) hx hb dX10_sweep_178 (by decide) ?_
        obtain ⟨r5, σ6, g7, h⟩ := of_bnd h
        refine x_VI (As := [.int 3]) (rest := []) hF hl hP hS (c_X10_fail hX g7) (cw_X10_146 hC rfl rfl ⟨Nat.le_of_ble_eq_true rfl, Nat.le_of_ble_eq_true rfl⟩) (lm_0 _) rfl rfl rfl (Nat.le_of_ble_eq_true rfl) dX10_sweep_179 ⟨Nat.le_of_ble_eq_true rfl, Nat.le_of_ble_eq_true rfl⟩ (fun H locs hP hS => ?_)
        exact x_iret hF hP hS h dX10_sweep_182
    · have h := of_f h c1
      refine lv_aload hx hb dX10_sweep_83 (lv_at hl 6 rfl) ?_
      refine lv_iload_n hx hb dX10_sweep_85 rfl (lv_at hl 1 rfl) ?_
      refine lv_iload hx hb dX10_sweep_86 (lv_at hl 7 rfl) ?_
      obtain ⟨g8, h⟩ := of_gd h
      refine x_iast hX hC hb hP hD hS lm1_38 g8 dX10_sweep_88 (fun H locs σ9 eσ9 hP hS => ?_)
      have h := of_lt h eσ9
      refine lv_aload hx hb dX10_sweep_89 (lv_at hl 6 rfl) ?_
      refine lv_iload_n hx hb dX10_sweep_91 rfl (lv_at hl 2 rfl) ?_
      refine lv_iload_n hx hb dX10_sweep_92 rfl (lv_at hl 3 rfl) ?_
      refine lv_iload hx hb dX10_sweep_93 (lv_at hl 7 rfl) ?_
      refine lv_isub hx hb dX10_sweep_95 ?_
      obtain ⟨g10, h⟩ := of_gd h
      refine x_iast hX hC hb hP hD hS lm1_38 g10 dX10_sweep_96 (fun H locs σ11 eσ11 hP hS => ?_)
      have h := of_lt h eσ11
      refine lv_aload_n hx hb dX10_sweep_97 rfl (lv_at hl 0 rfl) ?_
      refine lv_iload hx hb dX10_sweep_98 (lv_at hl 5 rfl) ?_
      refine lv_aload hx hb dX10_sweep_100 (lv_at hl 6 rfl) ?_
      refine lv_iload hx hb dX10_sweep_102 (lv_at hl 4 rfl) ?_
      obtain ⟨r12, σ13, g14, h⟩ := of_bnd h
      refine x_VV (As := [.int v5, .ref (E 38), .int v4]) (rest := []) hF hl hP hS (c_X10_make hX lm1_38 g14) (cw_X10_428 hC rfl rfl ⟨Nat.le_of_ble_eq_true rfl, Nat.le_of_ble_eq_true rfl⟩) (lm_0 _) rfl rfl rfl (Nat.le_of_ble_eq_true rfl) dX10_sweep_104 ⟨Nat.le_of_ble_eq_true rfl, Nat.le_of_ble_eq_true rfl⟩ (fun H locs hP hS => ?_)
      refine lv_iconst (v := 1) hx hb dX10_sweep_107 (by decide) ?_
      refine lv_istore (lv' := [(8, .int 1), (0, .ref (E 0)), (1, .int v1), (2, .int v2), (3, .int v3), (4, .int v4), (5, .int v5), (6, .ref (E 38)), (7, .int v7)]) hx hb dX10_sweep_108 hl (by decide) rfl (fun ls hl => ?_)
      refine lv_iconst (v := 0) hx hb dX10_sweep_110 (by decide) ?_
      refine lv_istore (lv' := [(9, .int 0), (8, .int 1), (0, .ref (E 0)), (1, .int v1), (2, .int v2), (3, .int v3), (4, .int v4), (5, .int v5), (6, .ref (E 38)), (7, .int v7)]) hx hb dX10_sweep_111 hl (by decide) rfl (fun ls hl => ?_)
      exact t_X10_sweep_113 hX  hF (f_X10_sweep_77 n) ih FU v1 v2 v3 v4 v5 v7 1 0 σ13 _ _ _ h hP hS (lv_sub hl [2, 3, 4, 5, 6, 7, 8, 9, 1, 0] rfl)

def f_X10_sweep (a1 : Int32) (a2 : Int32) (a3 : Int32) (a4 : Int32) (σ : Sta) : Option (Int32 × Sta) :=
  lt (sI σ 0 0) (fun σ1 =>
  bnd (f_X10_isGain a1 σ1) (fun r2 σ3 =>
  if r2 = 0 then
    f_X10_sweep_21 σ3
  else
    bnd (f_X10_isGain a2 σ3) (fun r6 σ7 =>
    if r6 = 0 then
      f_X10_sweep_21 σ7
    else
      if a1 = a2 then
        f_X10_sweep_57 σ7
      else
        bnd (f_X10_isIn a3.toInt64 1 9 σ7) (fun r11 σ12 =>
        if r11 = 0 then
          f_X10_sweep_57 σ12
        else
          bnd (f_X10_isIn a4.toInt64 1 30 σ12) (fun r15 σ16 =>
          if r15 = 0 then
            f_X10_sweep_57 σ16
          else
            lt (gI σ16 47) (fun x19 =>
            lt (sA σ16 38 (fun _ => 0)) (fun σ20 =>
            f_X10_sweep_77 FU a1 a2 a3 a4 x19 0 σ20)))))))
set_option maxHeartbeats 4000000 in
set_option maxRecDepth 100000 in
theorem c_X10_sweep {l : Launch} {D : va_G} {Y : CYs} {E : Nat → Nat} (hX : Lok LM0) {a1 : Int32} {a2 : Int32} {a3 : Int32} {a4 : Int32} (ht : l.stackTraces = false) {σ : Sta} {o : Int32 × Sta} (h : f_X10_sweep a1 a2 a3 a4 σ = some o) : ∀ sz, Met l yX10_sweep (Cond.code yX10_sweep cX10_sweep 10 (some .int) :: gW) rm_X10_sweep (PcC LM0 Y D E σ sz [.ref (E 0), .int a1, .int a2, .int a3, .int a4]) (QI LM0 Y D E sz o) 1 3 (AF E LM0.length sz) := by
  refine Met_of1 (Qc := fun sz => QI LM0 Y D E sz o) (by decide) (Nat.le_of_ble_eq_true rfl) (fun p e s m args below meth c hF hP ls hl => ?_)
  have hS : va_S (AF E LM0.length s.heap.size) s.heap s.heap [] := va_S.rf
  have hl : lv_has ls 10 [(0, .ref (E 0)), (1, .int a1), (2, .int a2), (3, .int a3), (4, .int a4)] := hl
  show W p l e rm_X10_sweep s m args below meth c s.heap [] 0 0 (MQ below (QI LM0 Y D E s.heap.size o) args s 1 3 (AF E LM0.length s.heap.size)) (F0 m 0 ls [])
  unfold f_X10_sweep at h
  obtain ⟨hC, hb, hml, hr, hlk, hD, hSW⟩ := id hF
  have hx := hC.1
  refine lv_aload_n hx hb dX10_sweep_0 rfl (lv_at hl 0 rfl) ?_
  refine lv_iconst (v := 0) hx hb dX10_sweep_1 (by decide) ?_
  refine pf_X10_140 hX hC hb hP hD hS dX10_sweep_2 (fun H locs σ1 eσ1 hP hS => ?_)
  have h := of_lt h eσ1
  refine lv_aload_n hx hb dX10_sweep_5 rfl (lv_at hl 0 rfl) ?_
  refine lv_iload_n hx hb dX10_sweep_6 rfl (lv_at hl 1 rfl) ?_
  obtain ⟨r2, σ3, g4, h⟩ := of_bnd h
  refine x_VI (As := [.int a1]) (rest := []) hF hl hP hS (c_X10_isGain hX g4) (cw_X10_419 hC rfl rfl ⟨Nat.le_of_ble_eq_true rfl, Nat.le_of_ble_eq_true rfl⟩) (lm_0 _) rfl rfl rfl (Nat.le_of_ble_eq_true rfl) dX10_sweep_7 ⟨Nat.le_of_ble_eq_true rfl, Nat.le_of_ble_eq_true rfl⟩ (fun H locs hP hS => ?_)
  refine lv_if_eq (tgt := 21) hx hb dX10_sweep_10 (by decide) (fun c5 => ?_) (fun c5 => ?_)
  · have h := of_t h c5
    exact t_X10_sweep_21 hX  hF σ3 _ _ _ h hP hS (lv_sub hl [0] rfl)
  · have h := of_f h c5
    refine lv_aload_n hx hb dX10_sweep_13 rfl (lv_at hl 0 rfl) ?_
    refine lv_iload_n hx hb dX10_sweep_14 rfl (lv_at hl 2 rfl) ?_
    obtain ⟨r6, σ7, g8, h⟩ := of_bnd h
    refine x_VI (As := [.int a2]) (rest := []) hF hl hP hS (c_X10_isGain hX g8) (cw_X10_419 hC rfl rfl ⟨Nat.le_of_ble_eq_true rfl, Nat.le_of_ble_eq_true rfl⟩) (lm_0 _) rfl rfl rfl (Nat.le_of_ble_eq_true rfl) dX10_sweep_15 ⟨Nat.le_of_ble_eq_true rfl, Nat.le_of_ble_eq_true rfl⟩ (fun H locs hP hS => ?_)
    refine lv_if_ne (tgt := 27) hx hb dX10_sweep_18 (by decide) (fun c9 => ?_) (fun c9 => ?_)
    · have h := of_f h c9
      refine lv_iload_n hx hb dX10_sweep_27 rfl (lv_at hl 1 rfl) ?_
      refine lv_iload_n hx hb dX10_sweep_28 rfl (lv_at hl 2 rfl) ?_
      refine lv_icmp_eq (tgt := 57) hx hb dX10_sweep_29 (by decide) (fun c10 => ?_) (fun c10 => ?_)
      · have h := of_t h c10
        exact t_X10_sweep_57 hX  hF σ7 _ _ _ h hP hS (lv_sub hl [0] rfl)
      · have h := of_f h c10
        refine lv_iload_n hx hb dX10_sweep_32 rfl (lv_at hl 3 rfl) ?_
        refine lv_i2l (v := a3.toInt64) hx hb dX10_sweep_33 rfl ?_
        refine lv_lconst (v := 1) hx hb dX10_sweep_34 (by decide) ?_
        refine lv_ldc2 (v := 9) hx hb hC.2.2.1 (hC.2.1 (Cond.constantLong RX10 424 9) (gw_t (tb8 (List.mem_of_getElem? (i := 34) rfl)) rfl)) dX10_sweep_35 ?_
        obtain ⟨r11, σ12, g13, h⟩ := of_bnd h
        refine x_SI (As := [.long a3.toInt64, .long 1, .long 9]) (rest := []) hF hl hP hS (c_X10_isIn hX g13) (cw_X10_154 hC rfl rfl ⟨Nat.le_of_ble_eq_true rfl, Nat.le_of_ble_eq_true rfl⟩) rfl rfl (Nat.le_of_ble_eq_true rfl) dX10_sweep_38 ⟨Nat.le_of_ble_eq_true rfl, Nat.le_of_ble_eq_true rfl⟩ (fun H locs hP hS => ?_)
        refine lv_if_eq (tgt := 57) hx hb dX10_sweep_41 (by decide) (fun c14 => ?_) (fun c14 => ?_)
        · have h := of_t h c14
          exact t_X10_sweep_57 hX  hF σ12 _ _ _ h hP hS (lv_sub hl [0] rfl)
        · have h := of_f h c14
          refine lv_iload hx hb dX10_sweep_44 (lv_at hl 4 rfl) ?_
          refine lv_i2l (v := a4.toInt64) hx hb dX10_sweep_46 rfl ?_
          refine lv_lconst (v := 1) hx hb dX10_sweep_47 (by decide) ?_
          refine lv_ldc2 (v := 30) hx hb hC.2.2.1 (hC.2.1 (Cond.constantLong RX10 426 30) (gw_t (tb8 (List.mem_of_getElem? (i := 39) rfl)) rfl)) dX10_sweep_48 ?_
          obtain ⟨r15, σ16, g17, h⟩ := of_bnd h
          refine x_SI (As := [.long a4.toInt64, .long 1, .long 30]) (rest := []) hF hl hP hS (c_X10_isIn hX g17) (cw_X10_154 hC rfl rfl ⟨Nat.le_of_ble_eq_true rfl, Nat.le_of_ble_eq_true rfl⟩) rfl rfl (Nat.le_of_ble_eq_true rfl) dX10_sweep_51 ⟨Nat.le_of_ble_eq_true rfl, Nat.le_of_ble_eq_true rfl⟩ (fun H locs hP hS => ?_)
          refine lv_if_ne (tgt := 63) hx hb dX10_sweep_54 (by decide) (fun c18 => ?_) (fun c18 => ?_)
          · have h := of_f h c18
            refine lv_aload_n hx hb dX10_sweep_63 rfl (lv_at hl 0 rfl) ?_
            refine gf_X10_216 hC hb hP dX10_sweep_64 ?_
            refine lv_topi (fun x19 ex19 => ?_)
            have h := of_lt h ex19
            refine lv_istore (lv' := [(5, .int x19), (0, .ref (E 0)), (1, .int a1), (2, .int a2), (3, .int a3), (4, .int a4)]) hx hb dX10_sweep_67 hl (by decide) rfl (fun ls hl => ?_)
            refine lv_iconst (v := 3) hx hb dX10_sweep_69 (by decide) ?_
            refine x_new3 hF hP hS dX10_sweep_70 (Nat.le_of_ble_eq_true rfl) (Nat.le_of_ble_eq_true rfl) (fun E H locs σ20 eσ20 hE hF hP hS => ?_)
            have h := of_lt h eσ20
            have hl : lv_has ls 10 [(5, .int x19), (0, .ref (E 0)), (1, .int a1), (2, .int a2), (3, .int a3), (4, .int a4)] := by rw [hE 0 (by decide)]; exact hl
            obtain ⟨hC, hb, hml, hr, hlk, hD, hSW⟩ := id hF
            have hX : Lok LM1 := lokM1
            refine lv_astore (lv' := [(6, .ref (E 38)), (5, .int x19), (0, .ref (E 0)), (1, .int a1), (2, .int a2), (3, .int a3), (4, .int a4)]) hx hb dX10_sweep_72 hl (by decide) rfl (fun ls hl => ?_)
            refine lv_iconst (v := 0) hx hb dX10_sweep_74 (by decide) ?_
            refine lv_istore (lv' := [(7, .int 0), (6, .ref (E 38)), (5, .int x19), (0, .ref (E 0)), (1, .int a1), (2, .int a2), (3, .int a3), (4, .int a4)]) hx hb dX10_sweep_75 hl (by decide) rfl (fun ls hl => ?_)
            exact t_X10_sweep_77 hX  hF FU a1 a2 a3 a4 x19 0 σ20 _ _ _ h hP hS (lv_sub hl [3, 4, 5, 6, 7, 2, 1, 0] rfl)
          · have h := of_t h c18
            exact t_X10_sweep_57 hX  hF σ16 _ _ _ h hP hS (lv_sub hl [0] rfl)
    · have h := of_t h c9
      exact t_X10_sweep_21 hX  hF σ7 _ _ _ h hP hS (lv_sub hl [0] rfl)
