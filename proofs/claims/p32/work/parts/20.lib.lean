theorem cw_J0_335 {R : Room} {p : Program} {s : State} {m : MethodId} {args : Array Value} {D : va_G} {Y : CYs} {rm : Room} (hC : Ctx p s m args RJ0 D Y) (hrc : rm.cells = 0) (hrs : rm.slots = 0) (hR : rm.frames + 1 ≤ R.frames ∧ 8 + (1 + 11) + rm.locals ≤ R.locals) : CallW R s args RJ0 RJ0 335 yJ0_coder_7d493 cJ0_coder_7d493 1 (some .byte) (Cond.code yJ0_coder_7d493 cJ0_coder_7d493 1 (some .byte) :: gW) rm 0 0 0 :=
  cwV 0 hC.2.1 (gi_V (gw_t (tb4 (List.mem_of_getElem? (i := 111) rfl)) rfl) (gw_t (tb4 (List.mem_of_getElem? (i := 112) rfl)) rfl) (gw_t (tb4 (List.mem_of_getElem? (i := 113) rfl)) rfl) (gw_t (tb1 (List.mem_of_getElem? (i := 13) rfl)) rfl) (gw_t (tb4 (List.mem_of_getElem? (i := 114) rfl)) rfl)) rfl hrc hrs ⟨rfl, by decide +kernel, by decide +kernel, by decide +kernel⟩ hR
theorem cw_J0_1059 {R : Room} {p : Program} {s : State} {m : MethodId} {args : Array Value} {D : va_G} {Y : CYs} {rm : Room} (hC : Ctx p s m args RJ0 D Y) (hrc : rm.cells = 0) (hrs : rm.slots = 0) (hR : rm.frames + 1 ≤ R.frames ∧ 8 + (3 + 11) + rm.locals ≤ R.locals) : CallB R s args RJ0 1059 yJ3_checkIndex_8e157 cJ3_checkIndex_8e157 3 (some .int) (Cond.code yJ3_checkIndex_8e157 cJ3_checkIndex_8e157 3 (some .int) :: gW) rm 0 0 3 ∧ (Cond.static yJ3_checkIndex_8e157).before args s = true :=
  ⟨callB_of 3 hC.2.1 (gi_law (gw_t (tb5 (List.mem_of_getElem? (i := 36) rfl)) rfl)) rfl hrc hrs (hC.2.1 (Cond.initialized RJ3) (gw_t (tb1 (List.mem_of_getElem? (i := 19) rfl)) rfl)) (hC.2.1 (Cond.methodLink RJ0 1059 yJ3_checkIndex_8e157) (gw_t (tb5 (List.mem_of_getElem? (i := 34) rfl)) rfl)) ⟨by decide +kernel, by decide +kernel, by decide +kernel⟩ hR, hC.2.1 (Cond.static yJ3_checkIndex_8e157) (gw_t (tb5 (List.mem_of_getElem? (i := 35) rfl)) rfl)⟩
theorem cw_J1_9 {R : Room} {p : Program} {s : State} {m : MethodId} {args : Array Value} {D : va_G} {Y : CYs} {rm : Room} (hC : Ctx p s m args RJ1 D Y) (hrc : rm.cells = 0) (hrs : rm.slots = 0) (hR : rm.frames + 1 ≤ R.frames ∧ 8 + (2 + 11) + rm.locals ≤ R.locals) : CallB R s args RJ1 9 yJ0_checkIndex_df160 cJ0_checkIndex_df160 2 none (Cond.code yJ0_checkIndex_df160 cJ0_checkIndex_df160 2 none :: gW) rm 0 0 2 ∧ (Cond.static yJ0_checkIndex_df160).before args s = true :=
  ⟨callB_of 2 hC.2.1 (gi_law (gw_t (tb5 (List.mem_of_getElem? (i := 33) rfl)) rfl)) rfl hrc hrs (hC.2.1 (Cond.initialized RJ0) (gw_t (tb1 (List.mem_of_getElem? (i := 13) rfl)) rfl)) (hC.2.1 (Cond.methodLink RJ1 9 yJ0_checkIndex_df160) (gw_t (tb5 (List.mem_of_getElem? (i := 31) rfl)) rfl)) ⟨by decide +kernel, by decide +kernel, by decide +kernel⟩ hR, hC.2.1 (Cond.static yJ0_checkIndex_df160) (gw_t (tb5 (List.mem_of_getElem? (i := 32) rfl)) rfl)⟩
theorem cw_J0_492 {R : Room} {p : Program} {s : State} {m : MethodId} {args : Array Value} {D : va_G} {Y : CYs} {rm : Room} (hC : Ctx p s m args RJ0 D Y) (hrc : rm.cells = 0) (hrs : rm.slots = 0) (hR : rm.frames + 1 ≤ R.frames ∧ 8 + (1 + 11) + rm.locals ≤ R.locals) : CallW R s args RJ0 RJ0 492 yJ0_isLatin1_aae02 cJ0_isLatin1_aae02 1 (some .boolean) (Cond.code yJ0_isLatin1_aae02 cJ0_isLatin1_aae02 1 (some .boolean) :: gW) rm 0 0 0 :=
  cwV 0 hC.2.1 (gi_V (gw_t (tb5 (List.mem_of_getElem? (i := 24) rfl)) rfl) (gw_t (tb5 (List.mem_of_getElem? (i := 25) rfl)) rfl) (gw_t (tb5 (List.mem_of_getElem? (i := 26) rfl)) rfl) (gw_t (tb1 (List.mem_of_getElem? (i := 13) rfl)) rfl) (gw_t (tb5 (List.mem_of_getElem? (i := 27) rfl)) rfl)) rfl hrc hrs ⟨rfl, by decide +kernel, by decide +kernel, by decide +kernel⟩ hR
theorem cw_J0_495 {R : Room} {p : Program} {s : State} {m : MethodId} {args : Array Value} {D : va_G} {Y : CYs} {rm : Room} (hC : Ctx p s m args RJ0 D Y) (hrc : rm.cells = 0) (hrs : rm.slots = 0) (hR : rm.frames + 1 ≤ R.frames ∧ 8 + (2 + 11) + rm.locals ≤ R.locals) : CallB R s args RJ0 495 yJ1_charAt_3b067 cJ1_charAt_3b067 2 (some .char) (Cond.code yJ1_charAt_3b067 cJ1_charAt_3b067 2 (some .char) :: gW) rm 0 0 2 ∧ (Cond.static yJ1_charAt_3b067).before args s = true :=
  ⟨callB_of 2 hC.2.1 (gi_law (gw_t (tb5 (List.mem_of_getElem? (i := 30) rfl)) rfl)) rfl hrc hrs (hC.2.1 (Cond.initialized RJ1) (gw_t (tb1 (List.mem_of_getElem? (i := 20) rfl)) rfl)) (hC.2.1 (Cond.methodLink RJ0 495 yJ1_charAt_3b067) (gw_t (tb5 (List.mem_of_getElem? (i := 28) rfl)) rfl)) ⟨by decide +kernel, by decide +kernel, by decide +kernel⟩ hR, hC.2.1 (Cond.static yJ1_charAt_3b067) (gw_t (tb5 (List.mem_of_getElem? (i := 29) rfl)) rfl)⟩
theorem cw_J1_88 {R : Room} {p : Program} {s : State} {m : MethodId} {args : Array Value} {D : va_G} {Y : CYs} {rm : Room} (hC : Ctx p s m args RJ1 D Y) (hrc : rm.cells = 0) (hrs : rm.slots = 0) (hR : rm.frames + 1 ≤ R.frames ∧ 8 + (1 + 11) + rm.locals ≤ R.locals) : CallB R s args RJ1 88 yJ1_canEncode_9a6ad cJ1_canEncode_9a6ad 1 (some .boolean) (Cond.code yJ1_canEncode_9a6ad cJ1_canEncode_9a6ad 1 (some .boolean) :: gW) rm 0 0 1 ∧ (Cond.static yJ1_canEncode_9a6ad).before args s = true :=
  ⟨callB_of 1 hC.2.1 (gi_law (gw_t (tb5 (List.mem_of_getElem? (i := 137) rfl)) rfl)) rfl hrc hrs (hC.2.1 (Cond.initialized RJ1) (gw_t (tb1 (List.mem_of_getElem? (i := 20) rfl)) rfl)) (hC.2.1 (Cond.methodLink RJ1 88 yJ1_canEncode_9a6ad) (gw_t (tb5 (List.mem_of_getElem? (i := 135) rfl)) rfl)) ⟨by decide +kernel, by decide +kernel, by decide +kernel⟩ hR, hC.2.1 (Cond.static yJ1_canEncode_9a6ad) (gw_t (tb5 (List.mem_of_getElem? (i := 136) rfl)) rfl)⟩
theorem cw_J1_95 {R : Room} {p : Program} {s : State} {m : MethodId} {args : Array Value} {D : va_G} {Y : CYs} {rm : Room} (hC : Ctx p s m args RJ1 D Y) (hrc : rm.cells = 0) (hrs : rm.slots = 0) (hR : rm.frames + 1 ≤ R.frames ∧ 8 + (6 + 11) + rm.locals ≤ R.locals) : CallB R s args RJ1 95 yJ1_indexOfChar_4cfef cJ1_indexOfChar_4cfef 6 (some .int) (Cond.code yJ1_indexOfChar_4cfef cJ1_indexOfChar_4cfef 6 (some .int) :: gW) rm 0 0 4 ∧ (Cond.static yJ1_indexOfChar_4cfef).before args s = true :=
  ⟨callB_of 4 hC.2.1 (gi_law (gw_t (tb5 (List.mem_of_getElem? (i := 142) rfl)) rfl)) rfl hrc hrs (hC.2.1 (Cond.initialized RJ1) (gw_t (tb1 (List.mem_of_getElem? (i := 20) rfl)) rfl)) (hC.2.1 (Cond.methodLink RJ1 95 yJ1_indexOfChar_4cfef) (gw_t (tb5 (List.mem_of_getElem? (i := 140) rfl)) rfl)) ⟨by decide +kernel, by decide +kernel, by decide +kernel⟩ hR, hC.2.1 (Cond.static yJ1_indexOfChar_4cfef) (gw_t (tb5 (List.mem_of_getElem? (i := 141) rfl)) rfl)⟩
theorem cw_J0_505 {R : Room} {p : Program} {s : State} {m : MethodId} {args : Array Value} {D : va_G} {Y : CYs} {rm : Room} (hC : Ctx p s m args RJ0 D Y) (hrc : rm.cells = 0) (hrs : rm.slots = 0) (hR : rm.frames + 1 ≤ R.frames ∧ 8 + (1 + 11) + rm.locals ≤ R.locals) : CallW R s args RJ0 RJ0 505 yJ0_length_8abf5 cJ0_length_8abf5 1 (some .int) (Cond.code yJ0_length_8abf5 cJ0_length_8abf5 1 (some .int) :: gW) rm 0 0 0 :=
  cwV 0 hC.2.1 (gi_V (gw_t (tb5 (List.mem_of_getElem? (i := 131) rfl)) rfl) (gw_t (tb4 (List.mem_of_getElem? (i := 108) rfl)) rfl) (gw_t (tb4 (List.mem_of_getElem? (i := 109) rfl)) rfl) (gw_t (tb1 (List.mem_of_getElem? (i := 13) rfl)) rfl) (gw_t (tb4 (List.mem_of_getElem? (i := 110) rfl)) rfl)) rfl hrc hrs ⟨rfl, by decide +kernel, by decide +kernel, by decide +kernel⟩ hR
theorem cw_J0_637 {R : Room} {p : Program} {s : State} {m : MethodId} {args : Array Value} {D : va_G} {Y : CYs} {rm : Room} (hC : Ctx p s m args RJ0 D Y) (hrc : rm.cells = 0) (hrs : rm.slots = 0) (hR : rm.frames + 1 ≤ R.frames ∧ 8 + (4 + 11) + rm.locals ≤ R.locals) : CallB R s args RJ0 637 yJ1_indexOf_4cfef cJ1_indexOf_4cfef 4 (some .int) (Cond.code yJ1_indexOf_4cfef cJ1_indexOf_4cfef 4 (some .int) :: gW) rm 0 0 4 ∧ (Cond.static yJ1_indexOf_4cfef).before args s = true :=
  ⟨callB_of 4 hC.2.1 (gi_law (gw_t (tb5 (List.mem_of_getElem? (i := 134) rfl)) rfl)) rfl hrc hrs (hC.2.1 (Cond.initialized RJ1) (gw_t (tb1 (List.mem_of_getElem? (i := 20) rfl)) rfl)) (hC.2.1 (Cond.methodLink RJ0 637 yJ1_indexOf_4cfef) (gw_t (tb5 (List.mem_of_getElem? (i := 132) rfl)) rfl)) ⟨by decide +kernel, by decide +kernel, by decide +kernel⟩ hR, hC.2.1 (Cond.static yJ1_indexOf_4cfef) (gw_t (tb5 (List.mem_of_getElem? (i := 133) rfl)) rfl)⟩
theorem cw_J0_633 {R : Room} {p : Program} {s : State} {m : MethodId} {args : Array Value} {D : va_G} {Y : CYs} {rm : Room} (hC : Ctx p s m args RJ0 D Y) (hrc : rm.cells = 0) (hrs : rm.slots = 0) (hR : rm.frames + 1 ≤ R.frames ∧ 8 + (3 + 11) + rm.locals ≤ R.locals) : CallW R s args RJ0 RJ0 633 yJ0_indexOf_7cf53 cJ0_indexOf_7cf53 3 (some .int) (Cond.code yJ0_indexOf_7cf53 cJ0_indexOf_7cf53 3 (some .int) :: gW) rm 0 0 2 :=
  cwV 2 hC.2.1 (gi_V (gw_t (tb5 (List.mem_of_getElem? (i := 127) rfl)) rfl) (gw_t (tb5 (List.mem_of_getElem? (i := 128) rfl)) rfl) (gw_t (tb5 (List.mem_of_getElem? (i := 129) rfl)) rfl) (gw_t (tb1 (List.mem_of_getElem? (i := 13) rfl)) rfl) (gw_t (tb5 (List.mem_of_getElem? (i := 130) rfl)) rfl)) rfl hrc hrs ⟨rfl, by decide +kernel, by decide +kernel, by decide +kernel⟩ hR
abbrev rm_J7_fill_53178 : Room := { frames := 0, cells := 0, slots := 0, locals := 0 }
def f_J7_fill_53178_5 (q0 n0 : Nat) : Nat → Int32 → Int32 → Int32 → Sta → Option (Unit × Sta)
  | 0, _, _, _, _ => none
  | n + 1, v1, v2, v3, σ => if v3 ≤ v2 then
      some ((), σ)
    else
      if v2 < 0 ∨ n0 ≤ (v2.toNatClampNeg) then none else (
      lt (sA σ q0 (upd (gA σ q0) (v2.toNatClampNeg) v1)) (fun σ3 =>
      lt (v2 + 1) (fun x4 =>
      f_J7_fill_53178_5 q0 n0 n v1 x4 v3 σ3)))
set_option maxHeartbeats 4000000 in
set_option maxRecDepth 100000 in
theorem t_J7_fill_53178_5 {l : Launch} {D : va_G} {Y : CYs} {E : Nat → Nat} {L : List Dsc} (hX : Lok L) {p : Program} {e : Env} {s : State} {m : MethodId} {args : Array Value} {below : List Frame} {meth : Method} {c : Code} {q0 n0 : Nat} {z0 : List (Nat × Nat)} (hq0 : L[q0]? = some (1, n0, z0)) (hF : Fr p s m args meth c RJ7 cJ7_fill_53178 4 none D Y E L) {o : Unit × Sta} : ∀ (n : Nat) (v1 : Int32) (v2 : Int32) (v3 : Int32) (σ : Sta) (H : Heap) (locs : List Loc) (ls : Array Slot), f_J7_fill_53178_5 q0 n0 n v1 v2 v3 σ = some o → va_P D vwCl (wd Y E σ 0 L) H → va_S (AF E L.length s.heap.size) s.heap H locs → lv_has ls 4 [(0, .ref (E q0)), (1, .int v1), (2, .int v2), (3, .int v3)] → WV p l e rm_J7_fill_53178 s m args below meth c L Y D E o H locs (F0 m 5 ls []) := by
  intro n
  induction n with
  | zero =>
    intro v1 v2 v3 σ H locs ls h hP hS hl
    exact nomatch (show (none : Option (Unit × Sta)) = some o from h)
  | succ n ih =>
    intro v1 v2 v3 σ H locs ls h hP hS hl
    rw [f_J7_fill_53178_5] at h
    obtain ⟨hC, hb, hml, hr, hlk, hD, hSW⟩ := id hF
    have hx := hC.1
    refine lv_iload_n hx hb dJ7_fill_53178_5 rfl (lv_at hl 2 rfl) ?_
    refine lv_iload_n hx hb dJ7_fill_53178_6 rfl (lv_at hl 3 rfl) ?_
    refine lv_icmp_ge (tgt := 20) hx hb dJ7_fill_53178_7 (by decide) (fun c1 => ?_) (fun c1 => ?_)
    · have h := of_t h c1
      exact x_vret hF hP hS h dJ7_fill_53178_20
    · have h := of_f h c1
      refine lv_aload_n hx hb dJ7_fill_53178_10 rfl (lv_at hl 0 rfl) ?_
      refine lv_iload_n hx hb dJ7_fill_53178_11 rfl (lv_at hl 2 rfl) ?_
      refine lv_iload_n hx hb dJ7_fill_53178_12 rfl (lv_at hl 1 rfl) ?_
      obtain ⟨g2, h⟩ := of_gd h
      refine x_iast hX hC hb hP hD hS hq0 g2 dJ7_fill_53178_13 (fun H locs σ3 eσ3 hP hS => ?_)
      have h := of_lt h eσ3
      obtain ⟨x4, ex4⟩ : ∃ y : Int32, y = v2 + 1 := ⟨_, rfl⟩
      have h := of_lt h ex4
      refine lv_iinc (v := x4) (lv' := [(2, .int x4), (0, .ref (E q0)), (1, .int v1), (3, .int v3)]) hx hb dJ7_fill_53178_14 hl (k := 2) rfl (by rw [ex4]; rfl) (by decide) rfl (fun ls hl => ?_)
      refine lv_goto (tgt := 5) hx hb dJ7_fill_53178_17 (by decide) ?_
      exact ih v1 x4 v3 σ3 _ _ _ h hP hS (lv_sub hl [1, 2, 0, 3] rfl)

def f_J7_fill_53178 (q0 n0 : Nat) (a1 : Int32) (σ : Sta) : Option (Unit × Sta) :=
  lt (Int32.ofNat n0) (fun x1 =>
  f_J7_fill_53178_5 q0 n0 FU a1 0 x1 σ)
set_option maxHeartbeats 4000000 in
set_option maxRecDepth 100000 in
theorem c_J7_fill_53178 {l : Launch} {D : va_G} {Y : CYs} {E : Nat → Nat} {L : List Dsc} (hX : Lok L) {q0 n0 : Nat} {a1 : Int32} {z0 : List (Nat × Nat)} (hq0 : L[q0]? = some (1, n0, z0)) {σ : Sta} {o : Unit × Sta} (h : f_J7_fill_53178 q0 n0 a1 σ = some o) : MV l yJ7_fill_53178 (Cond.code yJ7_fill_53178 cJ7_fill_53178 4 none :: gW) rm_J7_fill_53178 L Y D E [.ref (E q0), .int a1] σ o := by
  intro sz
  refine Met_of (Qc := fun sz => QV L Y D E sz o) (by decide) (Nat.le_of_ble_eq_true rfl) (fun p e s m args below meth c hF hP ls hl => ?_) sz
  have hS : va_S (AF E L.length s.heap.size) s.heap s.heap [] := va_S.rf
  have hl : lv_has ls 4 [(0, .ref (E q0)), (1, .int a1)] := hl
  show WV p l e rm_J7_fill_53178 s m args below meth c L Y D E o s.heap [] (F0 m 0 ls [])
  unfold f_J7_fill_53178 at h
  obtain ⟨hC, hb, hml, hr, hlk, hD, hSW⟩ := id hF
  have hx := hC.1
  refine lv_iconst (v := 0) hx hb dJ7_fill_53178_0 (by decide) ?_
  refine lv_istore_n (lv' := [(2, .int 0), (0, .ref (E q0)), (1, .int a1)]) hx hb dJ7_fill_53178_1 rfl hl (by decide) rfl (fun ls hl => ?_)
  refine lv_aload_n hx hb dJ7_fill_53178_2 rfl (lv_at hl 1 rfl) ?_
  refine x_alen (v := Int32.ofNat n0) hC hb hP hq0 (Or.inl rfl) rfl dJ7_fill_53178_3 ?_
  refine lv_topi (fun x1 ex1 => ?_)
  have h := of_lt h ex1
  refine lv_istore_n (lv' := [(3, .int x1), (2, .int 0), (0, .ref (E q0)), (1, .int a1)]) hx hb dJ7_fill_53178_4 rfl hl (by decide) rfl (fun ls hl => ?_)
  exact t_J7_fill_53178_5 hX  hq0 hF FU a1 0 x1 σ _ _ _ h hP hS (lv_sub hl [2, 3, 1, 0] rfl)

abbrev rm_J7_fill_d0a16 : Room := { frames := 0, cells := 0, slots := 0, locals := 0 }
def f_J7_fill_d0a16_6 (q0 n0 : Nat) : Nat → Int64 → Int32 → Int32 → Sta → Option (Unit × Sta)
  | 0, _, _, _, _ => none
  | n + 1, v1, v3, v4, σ => if v4 ≤ v3 then
      some ((), σ)
    else
      if v3 < 0 ∨ n0 ≤ (v3.toNatClampNeg) then none else (
      lt (sJ σ q0 (vp_updL (gJ σ q0) (v3.toNatClampNeg) v1)) (fun σ3 =>
      lt (v3 + 1) (fun x4 =>
      f_J7_fill_d0a16_6 q0 n0 n v1 x4 v4 σ3)))
set_option maxHeartbeats 4000000 in
set_option maxRecDepth 100000 in
theorem t_J7_fill_d0a16_6 {l : Launch} {D : va_G} {Y : CYs} {E : Nat → Nat} {L : List Dsc} (hX : Lok L) {p : Program} {e : Env} {s : State} {m : MethodId} {args : Array Value} {below : List Frame} {meth : Method} {c : Code} {q0 n0 : Nat} {z0 : List (Nat × Nat)} (hq0 : L[q0]? = some (2, n0, z0)) (hF : Fr p s m args meth c RJ7 cJ7_fill_d0a16 5 none D Y E L) {o : Unit × Sta} : ∀ (n : Nat) (v1 : Int64) (v3 : Int32) (v4 : Int32) (σ : Sta) (H : Heap) (locs : List Loc) (ls : Array Slot), f_J7_fill_d0a16_6 q0 n0 n v1 v3 v4 σ = some o → va_P D vwCl (wd Y E σ 0 L) H → va_S (AF E L.length s.heap.size) s.heap H locs → lv_has ls 5 [(0, .ref (E q0)), (1, .long v1), (3, .int v3), (4, .int v4)] → WV p l e rm_J7_fill_d0a16 s m args below meth c L Y D E o H locs (F0 m 6 ls []) := by
  intro n
  induction n with
  | zero =>
    intro v1 v3 v4 σ H locs ls h hP hS hl
    exact nomatch (show (none : Option (Unit × Sta)) = some o from h)
  | succ n ih =>
    intro v1 v3 v4 σ H locs ls h hP hS hl
    rw [f_J7_fill_d0a16_6] at h
    obtain ⟨hC, hb, hml, hr, hlk, hD, hSW⟩ := id hF
    have hx := hC.1
    refine lv_iload_n hx hb dJ7_fill_d0a16_6 rfl (lv_at hl 2 rfl) ?_
    refine lv_iload hx hb dJ7_fill_d0a16_7 (lv_at hl 3 rfl) ?_
    refine lv_icmp_ge (tgt := 22) hx hb dJ7_fill_d0a16_9 (by decide) (fun c1 => ?_) (fun c1 => ?_)
    · have h := of_t h c1
      exact x_vret hF hP hS h dJ7_fill_d0a16_22
    · have h := of_f h c1
      refine lv_aload_n hx hb dJ7_fill_d0a16_12 rfl (lv_at hl 0 rfl) ?_
      refine lv_iload_n hx hb dJ7_fill_d0a16_13 rfl (lv_at hl 2 rfl) ?_
      refine lv_lload_n hx hb dJ7_fill_d0a16_14 rfl (lv_at hl 1 rfl) ?_
      obtain ⟨g2, h⟩ := of_gd h
      refine x_last hX hC hb hP hD hS hq0 g2 dJ7_fill_d0a16_15 (fun H locs σ3 eσ3 hP hS => ?_)
      have h := of_lt h eσ3
      obtain ⟨x4, ex4⟩ : ∃ y : Int32, y = v3 + 1 := ⟨_, rfl⟩
      have h := of_lt h ex4
      refine lv_iinc (v := x4) (lv' := [(3, .int x4), (0, .ref (E q0)), (1, .long v1), (4, .int v4)]) hx hb dJ7_fill_d0a16_16 hl (k := 2) rfl (by rw [ex4]; rfl) (by decide) rfl (fun ls hl => ?_)
      refine lv_goto (tgt := 6) hx hb dJ7_fill_d0a16_19 (by decide) ?_
      exact ih v1 x4 v4 σ3 _ _ _ h hP hS (lv_sub hl [1, 2, 0, 3] rfl)

def f_J7_fill_d0a16 (q0 n0 : Nat) (a1 : Int64) (σ : Sta) : Option (Unit × Sta) :=
  lt (Int32.ofNat n0) (fun x1 =>
  f_J7_fill_d0a16_6 q0 n0 FU a1 0 x1 σ)
set_option maxHeartbeats 4000000 in
set_option maxRecDepth 100000 in
theorem c_J7_fill_d0a16 {l : Launch} {D : va_G} {Y : CYs} {E : Nat → Nat} {L : List Dsc} (hX : Lok L) {q0 n0 : Nat} {a1 : Int64} {z0 : List (Nat × Nat)} (hq0 : L[q0]? = some (2, n0, z0)) {σ : Sta} {o : Unit × Sta} (h : f_J7_fill_d0a16 q0 n0 a1 σ = some o) : MV l yJ7_fill_d0a16 (Cond.code yJ7_fill_d0a16 cJ7_fill_d0a16 5 none :: gW) rm_J7_fill_d0a16 L Y D E [.ref (E q0), .long a1] σ o := by
  intro sz
  refine Met_of (Qc := fun sz => QV L Y D E sz o) (by decide) (Nat.le_of_ble_eq_true rfl) (fun p e s m args below meth c hF hP ls hl => ?_) sz
  have hS : va_S (AF E L.length s.heap.size) s.heap s.heap [] := va_S.rf
  have hl : lv_has ls 5 [(0, .ref (E q0)), (1, .long a1)] := hl
  show WV p l e rm_J7_fill_d0a16 s m args below meth c L Y D E o s.heap [] (F0 m 0 ls [])
  unfold f_J7_fill_d0a16 at h
  obtain ⟨hC, hb, hml, hr, hlk, hD, hSW⟩ := id hF
  have hx := hC.1
  refine lv_iconst (v := 0) hx hb dJ7_fill_d0a16_0 (by decide) ?_
  refine lv_istore_n (lv' := [(3, .int 0), (0, .ref (E q0)), (1, .long a1)]) hx hb dJ7_fill_d0a16_1 rfl hl (by decide) rfl (fun ls hl => ?_)
  refine lv_aload_n hx hb dJ7_fill_d0a16_2 rfl (lv_at hl 1 rfl) ?_
  refine x_alen (v := Int32.ofNat n0) hC hb hP hq0 (Or.inr (Or.inl rfl)) rfl dJ7_fill_d0a16_3 ?_
  refine lv_topi (fun x1 ex1 => ?_)
  have h := of_lt h ex1
  refine lv_istore (lv' := [(4, .int x1), (3, .int 0), (0, .ref (E q0)), (1, .long a1)]) hx hb dJ7_fill_d0a16_4 hl (by decide) rfl (fun ls hl => ?_)
  exact t_J7_fill_d0a16_6 hX  hq0 hF FU a1 0 x1 σ _ _ _ h hP hS (lv_sub hl [2, 3, 1, 0] rfl)

abbrev rm_X8_entry : Room := { frames := 0, cells := 0, slots := 0, locals := 0 }
def f_X8_entry_17 (q0 n0 : Nat) (s0 : Int32) (σ : Sta) : Option (Int32 × Sta) :=
  some (s0, σ)
set_option maxHeartbeats 4000000 in
set_option maxRecDepth 100000 in
theorem t_X8_entry_17 {l : Launch} {D : va_G} {Y : CYs} {E : Nat → Nat} {p : Program} {e : Env} {s : State} {m : MethodId} {args : Array Value} {below : List Frame} {meth : Method} {c : Code} {q0 n0 : Nat} {z0 : List (Nat × Nat)} (hq0 : LC[q0]? = some (1, n0, z0)) (hF : Fr p s m args meth c RX8 cX8_entry 2 (some .int) D Y E LC) {o : Int32 × Sta} : ∀ (s0 : Int32) (σ : Sta) (H : Heap) (locs : List Loc) (ls : Array Slot), f_X8_entry_17 q0 n0 s0 σ = some o → va_P D vwCl (wd Y E σ 0 LC) H → va_S (AF E LC.length s.heap.size) s.heap H locs → lv_has ls 2 [] → WI p l e rm_X8_entry s m args below meth c LC Y D E o H locs (F0 m 17 ls [.int s0]) := by
  intro s0 σ H locs ls h hP hS hl
  unfold f_X8_entry_17 at h
  obtain ⟨hC, hb, hml, hr, hlk, hD, hSW⟩ := id hF
  have hx := hC.1
  exact x_iret hF hP hS h dX8_entry_17

def f_X8_entry_16 (q0 n0 : Nat) (σ : Sta) : Option (Int32 × Sta) :=
  f_X8_entry_17 q0 n0 0 σ
set_option maxHeartbeats 4000000 in
set_option maxRecDepth 100000 in
theorem t_X8_entry_16 {l : Launch} {D : va_G} {Y : CYs} {E : Nat → Nat} {p : Program} {e : Env} {s : State} {m : MethodId} {args : Array Value} {below : List Frame} {meth : Method} {c : Code} {q0 n0 : Nat} {z0 : List (Nat × Nat)} (hq0 : LC[q0]? = some (1, n0, z0)) (hF : Fr p s m args meth c RX8 cX8_entry 2 (some .int) D Y E LC) {o : Int32 × Sta} : ∀ (σ : Sta) (H : Heap) (locs : List Loc) (ls : Array Slot), f_X8_entry_16 q0 n0 σ = some o → va_P D vwCl (wd Y E σ 0 LC) H → va_S (AF E LC.length s.heap.size) s.heap H locs → lv_has ls 2 [] → WI p l e rm_X8_entry s m args below meth c LC Y D E o H locs (F0 m 16 ls []) := by
  intro σ H locs ls h hP hS hl
  unfold f_X8_entry_16 at h
  obtain ⟨hC, hb, hml, hr, hlk, hD, hSW⟩ := id hF
  have hx := hC.1
  refine lv_iconst (v := 0) hx hb dX8_entry_16 (by decide) ?_
  exact t_X8_entry_17  hq0 hF 0 σ _ _ _ h hP hS (lv_sub hl [] rfl)

def f_X8_entry (q0 n0 : Nat) (a1 : Int32) (σ : Sta) : Option (Int32 × Sta) :=
  if a1 < 0 then
    f_X8_entry_16 q0 n0 σ
  else
    if Int32.ofNat n0 ≤ a1 then
      f_X8_entry_16 q0 n0 σ
    else
      if a1 < 0 ∨ n0 ≤ (a1.toNatClampNeg) then none else (
      f_X8_entry_17 q0 n0 (gA σ q0 (a1.toNatClampNeg)) σ)
set_option maxHeartbeats 4000000 in
set_option maxRecDepth 100000 in
theorem c_X8_entry {l : Launch} {D : va_G} {Y : CYs} {E : Nat → Nat} {q0 n0 : Nat} {a1 : Int32} {z0 : List (Nat × Nat)} (hq0 : LC[q0]? = some (1, n0, z0)) {σ : Sta} {o : Int32 × Sta} (h : f_X8_entry q0 n0 a1 σ = some o) : MI l yX8_entry (Cond.code yX8_entry cX8_entry 2 (some .int) :: gW) rm_X8_entry LC Y D E [.ref (E q0), .int a1] σ o := by
  intro sz
  refine Met_of (Qc := fun sz => QI LC Y D E sz o) (by decide) (Nat.le_of_ble_eq_true rfl) (fun p e s m args below meth c hF hP ls hl => ?_) sz
  have hS : va_S (AF E LC.length s.heap.size) s.heap s.heap [] := va_S.rf
  have hl : lv_has ls 2 [(0, .ref (E q0)), (1, .int a1)] := hl
  show WI p l e rm_X8_entry s m args below meth c LC Y D E o s.heap [] (F0 m 0 ls [])
  unfold f_X8_entry at h
  obtain ⟨hC, hb, hml, hr, hlk, hD, hSW⟩ := id hF
  have hx := hC.1
  refine lv_iload_n hx hb dX8_entry_0 rfl (lv_at hl 1 rfl) ?_
  refine lv_if_lt (tgt := 16) hx hb dX8_entry_1 (by decide) (fun c1 => ?_) (fun c1 => ?_)
  · have h := of_t h c1
    exact t_X8_entry_16  hq0 hF σ _ _ _ h hP hS (lv_sub hl [] rfl)
  · have h := of_f h c1
    refine lv_iload_n hx hb dX8_entry_4 rfl (lv_at hl 1 rfl) ?_
    refine lv_aload_n hx hb dX8_entry_5 rfl (lv_at hl 0 rfl) ?_
    refine x_alen (v := Int32.ofNat n0) hC hb hP hq0 (Or.inl rfl) rfl dX8_entry_6 ?_
    refine lv_icmp_ge (tgt := 16) hx hb dX8_entry_7 (by decide) (fun c2 => ?_) (fun c2 => ?_)
    · have h := of_t h c2
      exact t_X8_entry_16  hq0 hF σ _ _ _ h hP hS (lv_sub hl [] rfl)
    · have h := of_f h c2
      refine lv_aload_n hx hb dX8_entry_10 rfl (lv_at hl 0 rfl) ?_
      refine lv_iload_n hx hb dX8_entry_11 rfl (lv_at hl 1 rfl) ?_
      obtain ⟨g3, h⟩ := of_gd h
      refine x_iald hC hb hP hq0 g3 dX8_entry_12 ?_
      refine lv_goto (tgt := 17) hx hb dX8_entry_13 (by decide) ?_
      exact t_X8_entry_17  hq0 hF (gA σ q0 (a1.toNatClampNeg)) σ _ _ _ h hP hS (lv_sub hl [] rfl)

abbrev rm_X8_entry_ : Room := { frames := 0, cells := 0, slots := 0, locals := 0 }
def f_X8_entry__17 (q0 n0 : Nat) (s0 : Int64) (σ : Sta) : Option (Int64 × Sta) :=
  some (s0, σ)
set_option maxHeartbeats 4000000 in
set_option maxRecDepth 100000 in
theorem t_X8_entry__17 {l : Launch} {D : va_G} {Y : CYs} {E : Nat → Nat} {p : Program} {e : Env} {s : State} {m : MethodId} {args : Array Value} {below : List Frame} {meth : Method} {c : Code} {q0 n0 : Nat} {z0 : List (Nat × Nat)} (hq0 : LC[q0]? = some (2, n0, z0)) (hF : Fr p s m args meth c RX8 cX8_entry_ 2 (some .long) D Y E LC) {o : Int64 × Sta} : ∀ (s0 : Int64) (σ : Sta) (H : Heap) (locs : List Loc) (ls : Array Slot), f_X8_entry__17 q0 n0 s0 σ = some o → va_P D vwCl (wd Y E σ 0 LC) H → va_S (AF E LC.length s.heap.size) s.heap H locs → lv_has ls 2 [] → WL p l e rm_X8_entry_ s m args below meth c LC Y D E o H locs (F0 m 17 ls [.long s0]) := by
  intro s0 σ H locs ls h hP hS hl
  unfold f_X8_entry__17 at h
  obtain ⟨hC, hb, hml, hr, hlk, hD, hSW⟩ := id hF
  have hx := hC.1
  exact x_lret hF hP hS h dX8_entry__17

def f_X8_entry__16 (q0 n0 : Nat) (σ : Sta) : Option (Int64 × Sta) :=
  f_X8_entry__17 q0 n0 0 σ
set_option maxHeartbeats 4000000 in
set_option maxRecDepth 100000 in
theorem t_X8_entry__16 {l : Launch} {D : va_G} {Y : CYs} {E : Nat → Nat} {p : Program} {e : Env} {s : State} {m : MethodId} {args : Array Value} {below : List Frame} {meth : Method} {c : Code} {q0 n0 : Nat} {z0 : List (Nat × Nat)} (hq0 : LC[q0]? = some (2, n0, z0)) (hF : Fr p s m args meth c RX8 cX8_entry_ 2 (some .long) D Y E LC) {o : Int64 × Sta} : ∀ (σ : Sta) (H : Heap) (locs : List Loc) (ls : Array Slot), f_X8_entry__16 q0 n0 σ = some o → va_P D vwCl (wd Y E σ 0 LC) H → va_S (AF E LC.length s.heap.size) s.heap H locs → lv_has ls 2 [] → WL p l e rm_X8_entry_ s m args below meth c LC Y D E o H locs (F0 m 16 ls []) := by
  intro σ H locs ls h hP hS hl
  unfold f_X8_entry__16 at h
  obtain ⟨hC, hb, hml, hr, hlk, hD, hSW⟩ := id hF
  have hx := hC.1
  refine lv_lconst (v := 0) hx hb dX8_entry__16 (by decide) ?_
  exact t_X8_entry__17  hq0 hF 0 σ _ _ _ h hP hS (lv_sub hl [] rfl)

def f_X8_entry_ (q0 n0 : Nat) (a1 : Int32) (σ : Sta) : Option (Int64 × Sta) :=
  if a1 < 0 then
    f_X8_entry__16 q0 n0 σ
  else
    if Int32.ofNat n0 ≤ a1 then
      f_X8_entry__16 q0 n0 σ
    else
      if a1 < 0 ∨ n0 ≤ (a1.toNatClampNeg) then none else (
      f_X8_entry__17 q0 n0 (gJ σ q0 (a1.toNatClampNeg)) σ)
set_option maxHeartbeats 4000000 in
set_option maxRecDepth 100000 in
theorem c_X8_entry_ {l : Launch} {D : va_G} {Y : CYs} {E : Nat → Nat} {q0 n0 : Nat} {a1 : Int32} {z0 : List (Nat × Nat)} (hq0 : LC[q0]? = some (2, n0, z0)) {σ : Sta} {o : Int64 × Sta} (h : f_X8_entry_ q0 n0 a1 σ = some o) : ML l yX8_entry_ (Cond.code yX8_entry_ cX8_entry_ 2 (some .long) :: gW) rm_X8_entry_ LC Y D E [.ref (E q0), .int a1] σ o := by
  intro sz
  refine Met_of (Qc := fun sz => QL LC Y D E sz o) (by decide) (Nat.le_of_ble_eq_true rfl) (fun p e s m args below meth c hF hP ls hl => ?_) sz
  have hS : va_S (AF E LC.length s.heap.size) s.heap s.heap [] := va_S.rf
  have hl : lv_has ls 2 [(0, .ref (E q0)), (1, .int a1)] := hl
  show WL p l e rm_X8_entry_ s m args below meth c LC Y D E o s.heap [] (F0 m 0 ls [])
  unfold f_X8_entry_ at h
  obtain ⟨hC, hb, hml, hr, hlk, hD, hSW⟩ := id hF
  have hx := hC.1
  refine lv_iload_n hx hb dX8_entry__0 rfl (lv_at hl 1 rfl) ?_
  refine lv_if_lt (tgt := 16) hx hb dX8_entry__1 (by decide) (fun c1 => ?_) (fun c1 => ?_)
  · have h := of_t h c1
    exact t_X8_entry__16  hq0 hF σ _ _ _ h hP hS (lv_sub hl [] rfl)
  · have h := of_f h c1
    refine lv_iload_n hx hb dX8_entry__4 rfl (lv_at hl 1 rfl) ?_
    refine lv_aload_n hx hb dX8_entry__5 rfl (lv_at hl 0 rfl) ?_
    refine x_alen (v := Int32.ofNat n0) hC hb hP hq0 (Or.inr (Or.inl rfl)) rfl dX8_entry__6 ?_
    refine lv_icmp_ge (tgt := 16) hx hb dX8_entry__7 (by decide) (fun c2 => ?_) (fun c2 => ?_)
    · have h := of_t h c2
      exact t_X8_entry__16  hq0 hF σ _ _ _ h hP hS (lv_sub hl [] rfl)
    · have h := of_f h c2
      refine lv_aload_n hx hb dX8_entry__10 rfl (lv_at hl 0 rfl) ?_
      refine lv_iload_n hx hb dX8_entry__11 rfl (lv_at hl 1 rfl) ?_
      obtain ⟨g3, h⟩ := of_gd h
      refine x_lald hC hb hP hq0 g3 dX8_entry__12 ?_
      refine lv_goto (tgt := 17) hx hb dX8_entry__13 (by decide) ?_
      exact t_X8_entry__17  hq0 hF (gJ σ q0 (a1.toNatClampNeg)) σ _ _ _ h hP hS (lv_sub hl [] rfl)

abbrev rm_J0_coder_7d493 : Room := { frames := 0, cells := 0, slots := 0, locals := 0 }
def f_J0_coder_7d493_14 (N : Nat) (bs : List Int32) (s0 : Int32) (σ : Sta) : Option (Int32 × Sta) :=
  if ¬ (s0.toInt8.toInt32 = s0) then none else (
  some (s0, σ))
set_option maxHeartbeats 4000000 in
set_option maxRecDepth 100000 in
theorem t_J0_coder_7d493_14 {l : Launch} {D : va_G} {Y : CYs} {E : Nat → Nat} {L : List Dsc} (hX : Lok L) {p : Program} {e : Env} {s : State} {m : MethodId} {args : Array Value} {below : List Frame} {meth : Method} {c : Code} {N : Nat} {bs : List Int32} {a0 v0 : Nat} (hF : Fr p s m args meth c RJ0 cJ0_coder_7d493 1 (some .byte) D Y E L) (hST : STA N bs a0 v0 (AF E L.length s.heap.size) s s.heap) {o : Int32 × Sta} : ∀ (s0 : Int32) (σ : Sta) (H : Heap) (locs : List Loc) (ls : Array Slot), f_J0_coder_7d493_14 N bs s0 σ = some o → va_P D vwCl (wd Y E σ 0 L) H → va_S (AF E L.length s.heap.size) s.heap H locs → lv_has ls 1 [] → WI p l e rm_J0_coder_7d493 s m args below meth c L Y D E o H locs (F0 m 14 ls [.int s0]) := by
  intro s0 σ H locs ls h hP hS hl
  unfold f_J0_coder_7d493_14 at h
  obtain ⟨hC, hb, hml, hr, hlk, hD, hSW⟩ := id hF
  have hx := hC.1
  obtain ⟨g1, h⟩ := of_gd h
  exact x_nret hF hP hS (nbyte g1) h dJ0_coder_7d493_14

def f_J0_coder_7d493 (N : Nat) (bs : List Int32) (σ : Sta) : Option (Int32 × Sta) :=
  if (1 : Int32) = 0 then
    f_J0_coder_7d493_14 N bs 1 σ
  else
    f_J0_coder_7d493_14 N bs 0 σ
set_option maxHeartbeats 4000000 in
set_option maxRecDepth 100000 in
theorem c_J0_coder_7d493 {l : Launch} {D : va_G} {Y : CYs} {E : Nat → Nat} {L : List Dsc} (hX : Lok L) {N : Nat} {bs : List Int32} {a0 v0 : Nat} {σ : Sta} {o : Int32 × Sta} (h : f_J0_coder_7d493 N bs σ = some o) : MIs l yJ0_coder_7d493 (Cond.code yJ0_coder_7d493 cJ0_coder_7d493 1 (some .byte) :: gW) rm_J0_coder_7d493 L Y D E N bs a0 v0 [.ref a0] σ o := by
  intro sz
  refine Mets_of (Qc := fun sz => QI L Y D E sz o) (by decide) (Nat.le_of_ble_eq_true rfl) (fun p e s m args below meth c hF hST hP ls hl => ?_) sz
  have hS : va_S (AF E L.length s.heap.size) s.heap s.heap [] := va_S.rf
  have hl : lv_has ls 1 [(0, .ref a0)] := hl
  show WI p l e rm_J0_coder_7d493 s m args below meth c L Y D E o s.heap [] (F0 m 0 ls [])
  unfold f_J0_coder_7d493 at h
  obtain ⟨hC, hb, hml, hr, hlk, hD, hSW⟩ := id hF
  have hx := hC.1
  refine va_gets hx hb hSW.2.1 hS hC.2.2.1 (hC.2.1 (Cond.fieldLink RJ0 38 "java/lang/String" "COMPACT_STRINGS" "Z") (gw_t (tb4 (List.mem_of_getElem? (i := 115) rfl)) rfl)) (fun _ h => h) dJ0_coder_7d493_0 ?_
  refine lv_if_eq (tgt := 13) hx hb dJ0_coder_7d493_3 (by decide) (fun c1 => ?_) (fun c1 => ?_)
  · have h := of_t h c1
    refine lv_iconst (v := 1) hx hb dJ0_coder_7d493_13 (by decide) ?_
    exact t_J0_coder_7d493_14 hX  hF hST 1 σ _ _ _ h hP hS (lv_sub hl [] rfl)
  · have h := of_f h c1
    refine lv_aload_n hx hb dJ0_coder_7d493_6 rfl (lv_at hl 0 rfl) ?_
    refine vk_getf hx hb hST.2.1 hS hC.2.2.1 (hC.2.1 (Cond.fieldLink RJ0 15 "java/lang/String" "coder" "B") (gw_t (tb4 (List.mem_of_getElem? (i := 228) rfl)) rfl)) (fun _ h => h) dJ0_coder_7d493_7 ?_
    refine lv_goto (tgt := 14) hx hb dJ0_coder_7d493_10 (by decide) ?_
    exact t_J0_coder_7d493_14 hX  hF hST 0 σ _ _ _ h hP hS (lv_sub hl [] rfl)

abbrev rm_J0_isLatin1_aae02 : Room := { frames := 0, cells := 0, slots := 0, locals := 0 }
def f_J0_isLatin1_aae02_18 (N : Nat) (bs : List Int32) (s0 : Int32) (σ : Sta) : Option (Int32 × Sta) :=
  if ¬ (s0 = 0 ∨ s0 = 1) then none else (
  some (s0, σ))
set_option maxHeartbeats 4000000 in
set_option maxRecDepth 100000 in
theorem t_J0_isLatin1_aae02_18 {l : Launch} {D : va_G} {Y : CYs} {E : Nat → Nat} {L : List Dsc} (hX : Lok L) {p : Program} {e : Env} {s : State} {m : MethodId} {args : Array Value} {below : List Frame} {meth : Method} {c : Code} {N : Nat} {bs : List Int32} {a0 v0 : Nat} (hF : Fr p s m args meth c RJ0 cJ0_isLatin1_aae02 1 (some .boolean) D Y E L) (hST : STA N bs a0 v0 (AF E L.length s.heap.size) s s.heap) {o : Int32 × Sta} : ∀ (s0 : Int32) (σ : Sta) (H : Heap) (locs : List Loc) (ls : Array Slot), f_J0_isLatin1_aae02_18 N bs s0 σ = some o → va_P D vwCl (wd Y E σ 0 L) H → va_S (AF E L.length s.heap.size) s.heap H locs → lv_has ls 1 [] → WI p l e rm_J0_isLatin1_aae02 s m args below meth c L Y D E o H locs (F0 m 18 ls [.int s0]) := by
  intro s0 σ H locs ls h hP hS hl
  unfold f_J0_isLatin1_aae02_18 at h
  obtain ⟨hC, hb, hml, hr, hlk, hD, hSW⟩ := id hF
  have hx := hC.1
  obtain ⟨g1, h⟩ := of_gd h
  exact x_zret hF hP hS (zb g1) h dJ0_isLatin1_aae02_18

def f_J0_isLatin1_aae02_17 (N : Nat) (bs : List Int32) (σ : Sta) : Option (Int32 × Sta) :=
  f_J0_isLatin1_aae02_18 N bs 0 σ
set_option maxHeartbeats 4000000 in
set_option maxRecDepth 100000 in
theorem t_J0_isLatin1_aae02_17 {l : Launch} {D : va_G} {Y : CYs} {E : Nat → Nat} {L : List Dsc} (hX : Lok L) {p : Program} {e : Env} {s : State} {m : MethodId} {args : Array Value} {below : List Frame} {meth : Method} {c : Code} {N : Nat} {bs : List Int32} {a0 v0 : Nat} (hF : Fr p s m args meth c RJ0 cJ0_isLatin1_aae02 1 (some .boolean) D Y E L) (hST : STA N bs a0 v0 (AF E L.length s.heap.size) s s.heap) {o : Int32 × Sta} : ∀ (σ : Sta) (H : Heap) (locs : List Loc) (ls : Array Slot), f_J0_isLatin1_aae02_17 N bs σ = some o → va_P D vwCl (wd Y E σ 0 L) H → va_S (AF E L.length s.heap.size) s.heap H locs → lv_has ls 1 [] → WI p l e rm_J0_isLatin1_aae02 s m args below meth c L Y D E o H locs (F0 m 17 ls []) := by
  intro σ H locs ls h hP hS hl
  unfold f_J0_isLatin1_aae02_17 at h
  obtain ⟨hC, hb, hml, hr, hlk, hD, hSW⟩ := id hF
  have hx := hC.1
  refine lv_iconst (v := 0) hx hb dJ0_isLatin1_aae02_17 (by decide) ?_
  exact t_J0_isLatin1_aae02_18 hX  hF hST 0 σ _ _ _ h hP hS (lv_sub hl [] rfl)

def f_J0_isLatin1_aae02 (N : Nat) (bs : List Int32) (σ : Sta) : Option (Int32 × Sta) :=
  if (1 : Int32) = 0 then
    f_J0_isLatin1_aae02_17 N bs σ
  else
    if (0 : Int32) = 0 then
      f_J0_isLatin1_aae02_18 N bs 1 σ
    else
      f_J0_isLatin1_aae02_17 N bs σ
set_option maxHeartbeats 4000000 in
set_option maxRecDepth 100000 in
theorem c_J0_isLatin1_aae02 {l : Launch} {D : va_G} {Y : CYs} {E : Nat → Nat} {L : List Dsc} (hX : Lok L) {N : Nat} {bs : List Int32} {a0 v0 : Nat} {σ : Sta} {o : Int32 × Sta} (h : f_J0_isLatin1_aae02 N bs σ = some o) : MIs l yJ0_isLatin1_aae02 (Cond.code yJ0_isLatin1_aae02 cJ0_isLatin1_aae02 1 (some .boolean) :: gW) rm_J0_isLatin1_aae02 L Y D E N bs a0 v0 [.ref a0] σ o := by
  intro sz
  refine Mets_of (Qc := fun sz => QI L Y D E sz o) (by decide) (Nat.le_of_ble_eq_true rfl) (fun p e s m args below meth c hF hST hP ls hl => ?_) sz
  have hS : va_S (AF E L.length s.heap.size) s.heap s.heap [] := va_S.rf
  have hl : lv_has ls 1 [(0, .ref a0)] := hl
  show WI p l e rm_J0_isLatin1_aae02 s m args below meth c L Y D E o s.heap [] (F0 m 0 ls [])
  unfold f_J0_isLatin1_aae02 at h
  obtain ⟨hC, hb, hml, hr, hlk, hD, hSW⟩ := id hF
  have hx := hC.1
  refine va_gets hx hb hSW.2.1 hS hC.2.2.1 (hC.2.1 (Cond.fieldLink RJ0 38 "java/lang/String" "COMPACT_STRINGS" "Z") (gw_t (tb4 (List.mem_of_getElem? (i := 115) rfl)) rfl)) (fun _ h => h) dJ0_isLatin1_aae02_0 ?_
  refine lv_if_eq (tgt := 17) hx hb dJ0_isLatin1_aae02_3 (by decide) (fun c1 => ?_) (fun c1 => ?_)
  · have h := of_t h c1
    exact t_J0_isLatin1_aae02_17 hX  hF hST σ _ _ _ h hP hS (lv_sub hl [] rfl)
  · have h := of_f h c1
    refine lv_aload_n hx hb dJ0_isLatin1_aae02_6 rfl (lv_at hl 0 rfl) ?_
    refine vk_getf hx hb hST.2.1 hS hC.2.2.1 (hC.2.1 (Cond.fieldLink RJ0 15 "java/lang/String" "coder" "B") (gw_t (tb4 (List.mem_of_getElem? (i := 228) rfl)) rfl)) (fun _ h => h) dJ0_isLatin1_aae02_7 ?_
    refine lv_if_ne (tgt := 17) hx hb dJ0_isLatin1_aae02_10 (by decide) (fun c2 => ?_) (fun c2 => ?_)
    · have h := of_f h c2
      exact t_J0_isLatin1_aae02_17 hX  hF hST σ _ _ _ h hP hS (lv_sub hl [] rfl)
    · have h := of_t h c2
      refine lv_iconst (v := 1) hx hb dJ0_isLatin1_aae02_13 (by decide) ?_
      refine lv_goto (tgt := 18) hx hb dJ0_isLatin1_aae02_14 (by decide) ?_
      exact t_J0_isLatin1_aae02_18 hX  hF hST 1 σ _ _ _ h hP hS (lv_sub hl [] rfl)

abbrev rm_J0_length_8abf5 : Room := { frames := 1, cells := 0, slots := 0, locals := 20 }
def f_J0_length_8abf5 (N : Nat) (bs : List Int32) (σ : Sta) : Option (Int32 × Sta) :=
  bnd (f_J0_coder_7d493 N bs σ) (fun r1 σ2 =>
  some ((Int32.ofNat N) >>> (r1 &&& 31), σ2))
set_option maxHeartbeats 4000000 in
set_option maxRecDepth 100000 in
theorem c_J0_length_8abf5 {l : Launch} {D : va_G} {Y : CYs} {E : Nat → Nat} {L : List Dsc} (hX : Lok L) {N : Nat} {bs : List Int32} {a0 v0 : Nat} {σ : Sta} {o : Int32 × Sta} (h : f_J0_length_8abf5 N bs σ = some o) : MIs l yJ0_length_8abf5 (Cond.code yJ0_length_8abf5 cJ0_length_8abf5 1 (some .int) :: gW) rm_J0_length_8abf5 L Y D E N bs a0 v0 [.ref a0] σ o := by
  intro sz
  refine Mets_of (Qc := fun sz => QI L Y D E sz o) (by decide) (Nat.le_of_ble_eq_true rfl) (fun p e s m args below meth c hF hST hP ls hl => ?_) sz
  have hS : va_S (AF E L.length s.heap.size) s.heap s.heap [] := va_S.rf
  have hl : lv_has ls 1 [(0, .ref a0)] := hl
  show WI p l e rm_J0_length_8abf5 s m args below meth c L Y D E o s.heap [] (F0 m 0 ls [])
  unfold f_J0_length_8abf5 at h
  obtain ⟨hC, hb, hml, hr, hlk, hD, hSW⟩ := id hF
  have hx := hC.1
  refine lv_aload_n hx hb dJ0_length_8abf5_0 rfl (lv_at hl 0 rfl) ?_
  refine vk_getf hx hb hST.2.2.1 hS hC.2.2.1 (hC.2.1 (Cond.fieldLink RJ0 9 "java/lang/String" "value" "[B") (gw_t (tb4 (List.mem_of_getElem? (i := 227) rfl)) rfl)) (fun _ h => h) dJ0_length_8abf5_1 ?_
  refine va_tlen hx hb hST.2.2.2 hS (v := Int32.ofNat N) rfl dJ0_length_8abf5_4 ?_
  refine lv_aload_n hx hb dJ0_length_8abf5_5 rfl (lv_at hl 0 rfl) ?_
  obtain ⟨r1, σ2, g3, h⟩ := of_bnd h
  refine x_VIs (As := []) (rest := [.int (Int32.ofNat N)]) hF hST hl hP hS (c_J0_coder_7d493 hX g3) (cw_J0_335 hC rfl rfl ⟨Nat.le_of_ble_eq_true rfl, Nat.le_of_ble_eq_true rfl⟩) rfl rfl (Nat.le_of_ble_eq_true rfl) dJ0_length_8abf5_6 ⟨Nat.zero_le _, Nat.zero_le _⟩ (fun H locs hP hS => ?_)
  refine lv_ishr hx hb dJ0_length_8abf5_9 ?_
  exact x_iret hF hP hS h dJ0_length_8abf5_10

abbrev rm_J3_checkIndex_8e157 : Room := { frames := 1, cells := 0, slots := 0, locals := 27 }
def f_J3_checkIndex_8e157_9 (v0 : Int32) (v1 : Int32) (σ : Sta) : Option (Int32 × Sta) :=
  none
set_option maxHeartbeats 4000000 in
set_option maxRecDepth 100000 in
theorem t_J3_checkIndex_8e157_9 {l : Launch} {D : va_G} {Y : CYs} {E : Nat → Nat} {L : List Dsc} (hX : Lok L) {p : Program} {e : Env} {s : State} {m : MethodId} {args : Array Value} {below : List Frame} {meth : Method} {c : Code} {z2 : Option Nat} (hF : Fr p s m args meth c RJ3 cJ3_checkIndex_8e157 3 (some .int) D Y E L) {o : Int32 × Sta} : ∀ (v0 : Int32) (v1 : Int32) (σ : Sta) (H : Heap) (locs : List Loc) (ls : Array Slot), f_J3_checkIndex_8e157_9 v0 v1 σ = some o → va_P D vwCl (wd Y E σ 0 L) H → va_S (AF E L.length s.heap.size) s.heap H locs → lv_has ls 3 [(0, .int v0), (1, .int v1), (2, va_rf z2)] → WI p l e rm_J3_checkIndex_8e157 s m args below meth c L Y D E o H locs (F0 m 9 ls []) := by
  intro v0 v1 σ H locs ls h hP hS hl
  unfold f_J3_checkIndex_8e157_9 at h
  obtain ⟨hC, hb, hml, hr, hlk, hD, hSW⟩ := id hF
  have hx := hC.1
  exact nomatch h

def f_J3_checkIndex_8e157 (a0 : Int32) (a1 : Int32) (σ : Sta) : Option (Int32 × Sta) :=
  if a0 < 0 then
    f_J3_checkIndex_8e157_9 a0 a1 σ
  else
    if a0 < a1 then
      some (a0, σ)
    else
      f_J3_checkIndex_8e157_9 a0 a1 σ
set_option maxHeartbeats 4000000 in
set_option maxRecDepth 100000 in
theorem c_J3_checkIndex_8e157 {l : Launch} {D : va_G} {Y : CYs} {E : Nat → Nat} {L : List Dsc} (hX : Lok L) {a0 : Int32} {a1 : Int32} {z2 : Option Nat} {σ : Sta} {o : Int32 × Sta} (h : f_J3_checkIndex_8e157 a0 a1 σ = some o) : MI l yJ3_checkIndex_8e157 (Cond.code yJ3_checkIndex_8e157 cJ3_checkIndex_8e157 3 (some .int) :: gW) rm_J3_checkIndex_8e157 L Y D E [.int a0, .int a1, va_rf z2] σ o := by
  intro sz
  refine Met_of (Qc := fun sz => QI L Y D E sz o) (by decide) (by cases z2 <;> exact Nat.le_of_ble_eq_true rfl) (fun p e s m args below meth c hF hP ls hl => ?_) sz
  have hS : va_S (AF E L.length s.heap.size) s.heap s.heap [] := va_S.rf
  have hl : lv_has ls 3 [(0, .int a0), (1, .int a1), (2, va_rf z2)] := hl
  show WI p l e rm_J3_checkIndex_8e157 s m args below meth c L Y D E o s.heap [] (F0 m 0 ls [])
  unfold f_J3_checkIndex_8e157 at h
  obtain ⟨hC, hb, hml, hr, hlk, hD, hSW⟩ := id hF
  have hx := hC.1
  refine lv_iload_n hx hb dJ3_checkIndex_8e157_0 rfl (lv_at hl 0 rfl) ?_
  refine lv_if_lt (tgt := 9) hx hb dJ3_checkIndex_8e157_1 (by decide) (fun c1 => ?_) (fun c1 => ?_)
  · have h := of_t h c1
    exact t_J3_checkIndex_8e157_9 hX  hF a0 a1 σ _ _ _ h hP hS (lv_sub hl [0, 1, 2] rfl)
  · have h := of_f h c1
    refine lv_iload_n hx hb dJ3_checkIndex_8e157_4 rfl (lv_at hl 0 rfl) ?_
    refine lv_iload_n hx hb dJ3_checkIndex_8e157_5 rfl (lv_at hl 1 rfl) ?_
    refine lv_icmp_lt (tgt := 16) hx hb dJ3_checkIndex_8e157_6 (by decide) (fun c2 => ?_) (fun c2 => ?_)
    · have h := of_t h c2
      refine lv_iload_n hx hb dJ3_checkIndex_8e157_16 rfl (lv_at hl 0 rfl) ?_
      exact x_iret hF hP hS h dJ3_checkIndex_8e157_17
    · have h := of_f h c2
      exact t_J3_checkIndex_8e157_9 hX  hF a0 a1 σ _ _ _ h hP hS (lv_sub hl [0, 1, 2] rfl)

abbrev rm_J0_checkIndex_df160 : Room := { frames := 2, cells := 0, slots := 0, locals := 49 }
def f_J0_checkIndex_df160 (a0 : Int32) (a1 : Int32) (σ : Sta) : Option (Unit × Sta) :=
  bnd (f_J3_checkIndex_8e157 a0 a1 σ) (fun r2 σ3 =>
  some ((), σ3))
set_option maxHeartbeats 4000000 in
set_option maxRecDepth 100000 in
theorem c_J0_checkIndex_df160 {l : Launch} {D : va_G} {Y : CYs} {E : Nat → Nat} {L : List Dsc} (hX : Lok L) {a0 : Int32} {a1 : Int32} {σ : Sta} {o : Unit × Sta} (h : f_J0_checkIndex_df160 a0 a1 σ = some o) : MV l yJ0_checkIndex_df160 (Cond.code yJ0_checkIndex_df160 cJ0_checkIndex_df160 2 none :: gW) rm_J0_checkIndex_df160 L Y D E [.int a0, .int a1] σ o := by
  intro sz
  refine Met_of (Qc := fun sz => QV L Y D E sz o) (by decide) (Nat.le_of_ble_eq_true rfl) (fun p e s m args below meth c hF hP ls hl => ?_) sz
  have hS : va_S (AF E L.length s.heap.size) s.heap s.heap [] := va_S.rf
  have hl : lv_has ls 2 [(0, .int a0), (1, .int a1)] := hl
  show WV p l e rm_J0_checkIndex_df160 s m args below meth c L Y D E o s.heap [] (F0 m 0 ls [])
  unfold f_J0_checkIndex_df160 at h
  obtain ⟨hC, hb, hml, hr, hlk, hD, hSW⟩ := id hF
  have hx := hC.1
  refine lv_iload_n hx hb dJ0_checkIndex_df160_0 rfl (lv_at hl 0 rfl) ?_
  refine lv_iload_n hx hb dJ0_checkIndex_df160_1 rfl (lv_at hl 1 rfl) ?_
  obtain ⟨z1, hz1⟩ := zq_of hSW.2.2.1
  refine va_gets hx hb hz1 hS hC.2.2.1 (hC.2.1 (Cond.fieldLink RJ0 1053 "jdk/internal/util/Preconditions" "SIOOBE_FORMATTER" "Ljava/util/function/BiFunction;") (gw_t (tb4 (List.mem_of_getElem? (i := 93) rfl)) rfl)) (fun _ h => h) dJ0_checkIndex_df160_2 ?_
  obtain ⟨r2, σ3, g4, h⟩ := of_bnd h
  refine x_SI (As := [.int a0, .int a1, va_rf z1]) (rest := []) hF hl hP hS (c_J3_checkIndex_8e157 hX g4) (cw_J0_1059 hC rfl rfl ⟨Nat.le_of_ble_eq_true rfl, Nat.le_of_ble_eq_true rfl⟩) rfl rfl (Nat.le_of_ble_eq_true rfl) dJ0_checkIndex_df160_5 ⟨Nat.zero_le _, Nat.zero_le _⟩ (fun H locs hP hS => ?_)
  refine lv_pop hx hb dJ0_checkIndex_df160_8 rfl ?_
  exact x_vret hF hP hS h dJ0_checkIndex_df160_9

abbrev rm_J1_charAt_3b067 : Room := { frames := 3, cells := 0, slots := 0, locals := 70 }
def f_J1_charAt_3b067 (N : Nat) (bs : List Int32) (a1 : Int32) (σ : Sta) : Option (Int32 × Sta) :=
  bnd (f_J0_checkIndex_df160 a1 (Int32.ofNat N) σ) (fun _ σ2 =>
  if a1 < 0 ∨ N ≤ (a1.toNatClampNeg) then none else (
  some ((((bs.getD (a1.toNatClampNeg) 0) &&& 255).toUInt32 % 65536).toInt32, σ2)))
set_option maxHeartbeats 4000000 in
set_option maxRecDepth 100000 in
theorem c_J1_charAt_3b067 {l : Launch} {D : va_G} {Y : CYs} {E : Nat → Nat} {L : List Dsc} (hX : Lok L) {N : Nat} {bs : List Int32} {a1 : Int32} {a0 v0 : Nat} {σ : Sta} {o : Int32 × Sta} (h : f_J1_charAt_3b067 N bs a1 σ = some o) : MIs l yJ1_charAt_3b067 (Cond.code yJ1_charAt_3b067 cJ1_charAt_3b067 2 (some .char) :: gW) rm_J1_charAt_3b067 L Y D E N bs a0 v0 [.ref v0, .int a1] σ o := by
  intro sz
  refine Mets_of (Qc := fun sz => QI L Y D E sz o) (by decide) (Nat.le_of_ble_eq_true rfl) (fun p e s m args below meth c hF hST hP ls hl => ?_) sz
  have hS : va_S (AF E L.length s.heap.size) s.heap s.heap [] := va_S.rf
  have hl : lv_has ls 2 [(0, .ref v0), (1, .int a1)] := hl
  show WI p l e rm_J1_charAt_3b067 s m args below meth c L Y D E o s.heap [] (F0 m 0 ls [])
  unfold f_J1_charAt_3b067 at h
  obtain ⟨hC, hb, hml, hr, hlk, hD, hSW⟩ := id hF
  have hx := hC.1
  refine lv_iload_n hx hb dJ1_charAt_3b067_0 rfl (lv_at hl 1 rfl) ?_
  refine lv_aload_n hx hb dJ1_charAt_3b067_1 rfl (lv_at hl 0 rfl) ?_
  refine va_tlen hx hb hST.2.2.2 hS (v := Int32.ofNat N) rfl dJ1_charAt_3b067_2 ?_
  obtain ⟨r1, σ2, g3, h⟩ := of_bnd h
  refine x_SV (As := [.int a1, .int (Int32.ofNat N)]) (rest := []) hF hl hP hS (c_J0_checkIndex_df160 hX g3) (cw_J1_9 hC rfl rfl ⟨Nat.le_of_ble_eq_true rfl, Nat.le_of_ble_eq_true rfl⟩) rfl rfl (Nat.le_of_ble_eq_true rfl) dJ1_charAt_3b067_3 ⟨Nat.zero_le _, Nat.zero_le _⟩ (fun H locs hP hS => ?_)
  refine lv_aload_n hx hb dJ1_charAt_3b067_6 rfl (lv_at hl 0 rfl) ?_
  refine lv_iload_n hx hb dJ1_charAt_3b067_7 rfl (lv_at hl 1 rfl) ?_
  obtain ⟨g4, h⟩ := of_gd h
  refine va_tb hx hb hST.2.2.2 hS g4 (v := .int (bs.getD (a1.toNatClampNeg) 0)) rfl dJ1_charAt_3b067_8 ?_
  refine lv_sipush (v := 255) hx hb dJ1_charAt_3b067_9 (by decide) ?_
  refine lv_iand hx hb dJ1_charAt_3b067_12 ?_
  refine lv_i2c (v := (((bs.getD (a1.toNatClampNeg) 0) &&& 255).toUInt32 % 65536).toInt32) hx hb dJ1_charAt_3b067_13 rfl ?_
  exact x_nret hF hP hS (pk_nc _) h dJ1_charAt_3b067_14

abbrev rm_J0_charAt_5068e : Room := { frames := 4, cells := 0, slots := 0, locals := 91 }
def f_J0_charAt_5068e (N : Nat) (bs : List Int32) (a1 : Int32) (σ : Sta) : Option (Int32 × Sta) :=
  bnd (f_J0_isLatin1_aae02 N bs σ) (fun r1 σ2 =>
  if r1 = 0 then
    none
  else
    bnd (f_J1_charAt_3b067 N bs a1 σ2) (fun r5 σ6 =>
    if ¬ (r5.toUInt32.toUInt16.toUInt32.toInt32 = r5) then none else (
    some (r5, σ6))))
set_option maxHeartbeats 4000000 in
set_option maxRecDepth 100000 in
theorem c_J0_charAt_5068e {l : Launch} {D : va_G} {Y : CYs} {E : Nat → Nat} {L : List Dsc} (hX : Lok L) {N : Nat} {bs : List Int32} {a1 : Int32} {a0 v0 : Nat} {σ : Sta} {o : Int32 × Sta} (h : f_J0_charAt_5068e N bs a1 σ = some o) : MIs l yJ0_charAt_5068e (Cond.code yJ0_charAt_5068e cJ0_charAt_5068e 2 (some .char) :: gW) rm_J0_charAt_5068e L Y D E N bs a0 v0 [.ref a0, .int a1] σ o := by
  intro sz
  refine Mets_of (Qc := fun sz => QI L Y D E sz o) (by decide) (Nat.le_of_ble_eq_true rfl) (fun p e s m args below meth c hF hST hP ls hl => ?_) sz
  have hS : va_S (AF E L.length s.heap.size) s.heap s.heap [] := va_S.rf
  have hl : lv_has ls 2 [(0, .ref a0), (1, .int a1)] := hl
  show WI p l e rm_J0_charAt_5068e s m args below meth c L Y D E o s.heap [] (F0 m 0 ls [])
  unfold f_J0_charAt_5068e at h
  obtain ⟨hC, hb, hml, hr, hlk, hD, hSW⟩ := id hF
  have hx := hC.1
  refine lv_aload_n hx hb dJ0_charAt_5068e_0 rfl (lv_at hl 0 rfl) ?_
  obtain ⟨r1, σ2, g3, h⟩ := of_bnd h
  refine x_VIs (As := []) (rest := []) hF hST hl hP hS (c_J0_isLatin1_aae02 hX g3) (cw_J0_492 hC rfl rfl ⟨Nat.le_of_ble_eq_true rfl, Nat.le_of_ble_eq_true rfl⟩) rfl rfl (Nat.le_of_ble_eq_true rfl) dJ0_charAt_5068e_1 ⟨Nat.zero_le _, Nat.zero_le _⟩ (fun H locs hP hS => ?_)
  refine lv_if_eq (tgt := 16) hx hb dJ0_charAt_5068e_4 (by decide) (fun c4 => ?_) (fun c4 => ?_)
  · have h := of_t h c4
    refine lv_aload_n hx hb dJ0_charAt_5068e_16 rfl (lv_at hl 0 rfl) ?_
    refine vk_getf hx hb hST.2.2.1 hS hC.2.2.1 (hC.2.1 (Cond.fieldLink RJ0 9 "java/lang/String" "value" "[B") (gw_t (tb4 (List.mem_of_getElem? (i := 227) rfl)) rfl)) (fun _ h => h) dJ0_charAt_5068e_17 ?_
    refine lv_iload_n hx hb dJ0_charAt_5068e_20 rfl (lv_at hl 1 rfl) ?_
    exact nomatch h
  · have h := of_f h c4
    refine lv_aload_n hx hb dJ0_charAt_5068e_7 rfl (lv_at hl 0 rfl) ?_
    refine vk_getf hx hb hST.2.2.1 hS hC.2.2.1 (hC.2.1 (Cond.fieldLink RJ0 9 "java/lang/String" "value" "[B") (gw_t (tb4 (List.mem_of_getElem? (i := 227) rfl)) rfl)) (fun _ h => h) dJ0_charAt_5068e_8 ?_
    refine lv_iload_n hx hb dJ0_charAt_5068e_11 rfl (lv_at hl 1 rfl) ?_
    obtain ⟨r5, σ6, g7, h⟩ := of_bnd h
    refine x_SIs (As := [.ref v0, .int a1]) (rest := []) hF hST hl hP hS (c_J1_charAt_3b067 hX g7) (cw_J0_495 hC rfl rfl ⟨Nat.le_of_ble_eq_true rfl, Nat.le_of_ble_eq_true rfl⟩) rfl rfl (Nat.le_of_ble_eq_true rfl) dJ0_charAt_5068e_12 ⟨Nat.zero_le _, Nat.zero_le _⟩ (fun H locs hP hS => ?_)
    obtain ⟨g8, h⟩ := of_gd h
    exact x_nret hF hP hS (nchar g8) h dJ0_charAt_5068e_15

abbrev rm_J1_canEncode_9a6ad : Room := { frames := 0, cells := 0, slots := 0, locals := 0 }
def f_J1_canEncode_9a6ad_16 (s0 : Int32) (σ : Sta) : Option (Int32 × Sta) :=
  if ¬ (s0 = 0 ∨ s0 = 1) then none else (
  some (s0, σ))
set_option maxHeartbeats 4000000 in
set_option maxRecDepth 100000 in
theorem t_J1_canEncode_9a6ad_16 {l : Launch} {D : va_G} {Y : CYs} {E : Nat → Nat} {L : List Dsc} (hX : Lok L) {p : Program} {e : Env} {s : State} {m : MethodId} {args : Array Value} {below : List Frame} {meth : Method} {c : Code} (hF : Fr p s m args meth c RJ1 cJ1_canEncode_9a6ad 1 (some .boolean) D Y E L) {o : Int32 × Sta} : ∀ (s0 : Int32) (σ : Sta) (H : Heap) (locs : List Loc) (ls : Array Slot), f_J1_canEncode_9a6ad_16 s0 σ = some o → va_P D vwCl (wd Y E σ 0 L) H → va_S (AF E L.length s.heap.size) s.heap H locs → lv_has ls 1 [] → WI p l e rm_J1_canEncode_9a6ad s m args below meth c L Y D E o H locs (F0 m 16 ls [.int s0]) := by
  intro s0 σ H locs ls h hP hS hl
  unfold f_J1_canEncode_9a6ad_16 at h
  obtain ⟨hC, hb, hml, hr, hlk, hD, hSW⟩ := id hF
  have hx := hC.1
  obtain ⟨g1, h⟩ := of_gd h
  exact x_zret hF hP hS (zb g1) h dJ1_canEncode_9a6ad_16

def f_J1_canEncode_9a6ad_15 (σ : Sta) : Option (Int32 × Sta) :=
  f_J1_canEncode_9a6ad_16 0 σ
set_option maxHeartbeats 4000000 in
set_option maxRecDepth 100000 in
theorem t_J1_canEncode_9a6ad_15 {l : Launch} {D : va_G} {Y : CYs} {E : Nat → Nat} {L : List Dsc} (hX : Lok L) {p : Program} {e : Env} {s : State} {m : MethodId} {args : Array Value} {below : List Frame} {meth : Method} {c : Code} (hF : Fr p s m args meth c RJ1 cJ1_canEncode_9a6ad 1 (some .boolean) D Y E L) {o : Int32 × Sta} : ∀ (σ : Sta) (H : Heap) (locs : List Loc) (ls : Array Slot), f_J1_canEncode_9a6ad_15 σ = some o → va_P D vwCl (wd Y E σ 0 L) H → va_S (AF E L.length s.heap.size) s.heap H locs → lv_has ls 1 [] → WI p l e rm_J1_canEncode_9a6ad s m args below meth c L Y D E o H locs (F0 m 15 ls []) := by
  intro σ H locs ls h hP hS hl
  unfold f_J1_canEncode_9a6ad_15 at h
  obtain ⟨hC, hb, hml, hr, hlk, hD, hSW⟩ := id hF
  have hx := hC.1
  refine lv_iconst (v := 0) hx hb dJ1_canEncode_9a6ad_15 (by decide) ?_
  exact t_J1_canEncode_9a6ad_16 hX  hF 0 σ _ _ _ h hP hS (lv_sub hl [] rfl)

def f_J1_canEncode_9a6ad (a0 : Int32) (σ : Sta) : Option (Int32 × Sta) :=
  if a0 < 0 then
    f_J1_canEncode_9a6ad_15 σ
  else
    if 255 < a0 then
      f_J1_canEncode_9a6ad_15 σ
    else
      f_J1_canEncode_9a6ad_16 1 σ
set_option maxHeartbeats 4000000 in
set_option maxRecDepth 100000 in
theorem c_J1_canEncode_9a6ad {l : Launch} {D : va_G} {Y : CYs} {E : Nat → Nat} {L : List Dsc} (hX : Lok L) {a0 : Int32} {σ : Sta} {o : Int32 × Sta} (h : f_J1_canEncode_9a6ad a0 σ = some o) : MI l yJ1_canEncode_9a6ad (Cond.code yJ1_canEncode_9a6ad cJ1_canEncode_9a6ad 1 (some .boolean) :: gW) rm_J1_canEncode_9a6ad L Y D E [.int a0] σ o := by
  intro sz
  refine Met_of (Qc := fun sz => QI L Y D E sz o) (by decide) (Nat.le_of_ble_eq_true rfl) (fun p e s m args below meth c hF hP ls hl => ?_) sz
  have hS : va_S (AF E L.length s.heap.size) s.heap s.heap [] := va_S.rf
  have hl : lv_has ls 1 [(0, .int a0)] := hl
  show WI p l e rm_J1_canEncode_9a6ad s m args below meth c L Y D E o s.heap [] (F0 m 0 ls [])
  unfold f_J1_canEncode_9a6ad at h
  obtain ⟨hC, hb, hml, hr, hlk, hD, hSW⟩ := id hF
  have hx := hC.1
  refine lv_iload_n hx hb dJ1_canEncode_9a6ad_0 rfl (lv_at hl 0 rfl) ?_
  refine lv_if_lt (tgt := 15) hx hb dJ1_canEncode_9a6ad_1 (by decide) (fun c1 => ?_) (fun c1 => ?_)
  · have h := of_t h c1
    exact t_J1_canEncode_9a6ad_15 hX  hF σ _ _ _ h hP hS (lv_sub hl [] rfl)
  · have h := of_f h c1
    refine lv_iload_n hx hb dJ1_canEncode_9a6ad_4 rfl (lv_at hl 0 rfl) ?_
    refine lv_sipush (v := 255) hx hb dJ1_canEncode_9a6ad_5 (by decide) ?_
    refine lv_icmp_gt (tgt := 15) hx hb dJ1_canEncode_9a6ad_8 (by decide) (fun c2 => ?_) (fun c2 => ?_)
    · have h := of_t h c2
      exact t_J1_canEncode_9a6ad_15 hX  hF σ _ _ _ h hP hS (lv_sub hl [] rfl)
    · have h := of_f h c2
      refine lv_iconst (v := 1) hx hb dJ1_canEncode_9a6ad_11 (by decide) ?_
      refine lv_goto (tgt := 16) hx hb dJ1_canEncode_9a6ad_12 (by decide) ?_
      exact t_J1_canEncode_9a6ad_16 hX  hF 1 σ _ _ _ h hP hS (lv_sub hl [] rfl)

abbrev rm_J1_indexOfChar_4cfef : Room := { frames := 0, cells := 0, slots := 0, locals := 0 }
def f_J1_indexOfChar_4cfef_7 (N : Nat) (bs : List Int32) : Nat → Int32 → Int32 → Int32 → Sta → Option (Int32 × Sta)
  | 0, _, _, _, _ => none
  | n + 1, v3, v4, v5, σ => if v3 ≤ v5 then
      some (-1, σ)
    else
      if v5 < 0 ∨ N ≤ (v5.toNatClampNeg) then none else (
      if bs.getD (v5.toNatClampNeg) 0 = v4 then
        some (v5, σ)
      else
        lt (v5 + 1) (fun x4 =>
        f_J1_indexOfChar_4cfef_7 N bs n v3 v4 x4 σ))
set_option maxHeartbeats 4000000 in
set_option maxRecDepth 100000 in
theorem t_J1_indexOfChar_4cfef_7 {l : Launch} {D : va_G} {Y : CYs} {E : Nat → Nat} {L : List Dsc} (hX : Lok L) {p : Program} {e : Env} {s : State} {m : MethodId} {args : Array Value} {below : List Frame} {meth : Method} {c : Code} {N : Nat} {bs : List Int32} {a0 v0 : Nat} (hF : Fr p s m args meth c RJ1 cJ1_indexOfChar_4cfef 6 (some .int) D Y E L) (hST : STA N bs a0 v0 (AF E L.length s.heap.size) s s.heap) {o : Int32 × Sta} : ∀ (n : Nat) (v3 : Int32) (v4 : Int32) (v5 : Int32) (σ : Sta) (H : Heap) (locs : List Loc) (ls : Array Slot), f_J1_indexOfChar_4cfef_7 N bs n v3 v4 v5 σ = some o → va_P D vwCl (wd Y E σ 0 L) H → va_S (AF E L.length s.heap.size) s.heap H locs → lv_has ls 6 [(0, .ref v0), (3, .int v3), (4, .int v4), (5, .int v5)] → WI p l e rm_J1_indexOfChar_4cfef s m args below meth c L Y D E o H locs (F0 m 7 ls []) := by
  intro n
  induction n with
  | zero =>
    intro v3 v4 v5 σ H locs ls h hP hS hl
    exact nomatch (show (none : Option (Int32 × Sta)) = some o from h)
  | succ n ih =>
    intro v3 v4 v5 σ H locs ls h hP hS hl
    rw [f_J1_indexOfChar_4cfef_7] at h
    obtain ⟨hC, hb, hml, hr, hlk, hD, hSW⟩ := id hF
    have hx := hC.1
    refine lv_iload hx hb dJ1_indexOfChar_4cfef_7 (lv_at hl 3 rfl) ?_
    refine lv_iload_n hx hb dJ1_indexOfChar_4cfef_9 rfl (lv_at hl 1 rfl) ?_
    refine lv_icmp_ge (tgt := 31) hx hb dJ1_indexOfChar_4cfef_10 (by decide) (fun c1 => ?_) (fun c1 => ?_)
    · have h := of_t h c1
      refine lv_iconst (v := -1) hx hb dJ1_indexOfChar_4cfef_31 (by decide) ?_
      exact x_iret hF hP hS h dJ1_indexOfChar_4cfef_32
    · have h := of_f h c1
      refine lv_aload_n hx hb dJ1_indexOfChar_4cfef_13 rfl (lv_at hl 0 rfl) ?_
      refine lv_iload hx hb dJ1_indexOfChar_4cfef_14 (lv_at hl 3 rfl) ?_
      obtain ⟨g2, h⟩ := of_gd h
      refine va_tb hx hb hST.2.2.2 hS g2 (v := .int (bs.getD (v5.toNatClampNeg) 0)) rfl dJ1_indexOfChar_4cfef_16 ?_
      refine lv_iload hx hb dJ1_indexOfChar_4cfef_17 (lv_at hl 2 rfl) ?_
      refine lv_icmp_ne (tgt := 25) hx hb dJ1_indexOfChar_4cfef_19 (by decide) (fun c3 => ?_) (fun c3 => ?_)
      · have h := of_f h c3
        obtain ⟨x4, ex4⟩ : ∃ y : Int32, y = v5 + 1 := ⟨_, rfl⟩
        have h := of_lt h ex4
        refine lv_iinc (v := x4) (lv' := [(5, .int x4), (0, .ref v0), (3, .int v3), (4, .int v4)]) hx hb dJ1_indexOfChar_4cfef_25 hl (k := 3) rfl (by rw [ex4]; rfl) (by decide) rfl (fun ls hl => ?_)
        refine lv_goto (tgt := 7) hx hb dJ1_indexOfChar_4cfef_28 (by decide) ?_
        exact ih v3 v4 x4 σ _ _ _ h hP hS (lv_sub hl [1, 2, 3, 0] rfl)
      · have h := of_t h c3
        refine lv_iload hx hb dJ1_indexOfChar_4cfef_22 (lv_at hl 3 rfl) ?_
        exact x_iret hF hP hS h dJ1_indexOfChar_4cfef_24

def f_J1_indexOfChar_4cfef (N : Nat) (bs : List Int32) (a1 : Int32) (a2 : Int32) (a3 : Int32) (σ : Sta) : Option (Int32 × Sta) :=
  lt (a1.toInt8.toInt32) (fun x1 =>
  f_J1_indexOfChar_4cfef_7 N bs FU a3 x1 a2 σ)
set_option maxHeartbeats 4000000 in
set_option maxRecDepth 100000 in
theorem c_J1_indexOfChar_4cfef {l : Launch} {D : va_G} {Y : CYs} {E : Nat → Nat} {L : List Dsc} (hX : Lok L) {N : Nat} {bs : List Int32} {a1 : Int32} {a2 : Int32} {a3 : Int32} {a0 v0 : Nat} {σ : Sta} {o : Int32 × Sta} (h : f_J1_indexOfChar_4cfef N bs a1 a2 a3 σ = some o) : MIs l yJ1_indexOfChar_4cfef (Cond.code yJ1_indexOfChar_4cfef cJ1_indexOfChar_4cfef 6 (some .int) :: gW) rm_J1_indexOfChar_4cfef L Y D E N bs a0 v0 [.ref v0, .int a1, .int a2, .int a3] σ o := by
  intro sz
  refine Mets_of (Qc := fun sz => QI L Y D E sz o) (by decide) (Nat.le_of_ble_eq_true rfl) (fun p e s m args below meth c hF hST hP ls hl => ?_) sz
  have hS : va_S (AF E L.length s.heap.size) s.heap s.heap [] := va_S.rf
  have hl : lv_has ls 6 [(0, .ref v0), (1, .int a1), (2, .int a2), (3, .int a3)] := hl
  show WI p l e rm_J1_indexOfChar_4cfef s m args below meth c L Y D E o s.heap [] (F0 m 0 ls [])
  unfold f_J1_indexOfChar_4cfef at h
  obtain ⟨hC, hb, hml, hr, hlk, hD, hSW⟩ := id hF
  have hx := hC.1
  refine lv_iload_n hx hb dJ1_indexOfChar_4cfef_0 rfl (lv_at hl 1 rfl) ?_
  refine lv_i2b (v := a1.toInt8.toInt32) hx hb dJ1_indexOfChar_4cfef_1 rfl ?_
  refine lv_topi (fun x1 ex1 => ?_)
  have h := of_lt h ex1
  refine lv_istore (lv' := [(4, .int x1), (0, .ref v0), (1, .int a1), (2, .int a2), (3, .int a3)]) hx hb dJ1_indexOfChar_4cfef_2 hl (by decide) rfl (fun ls hl => ?_)
  refine lv_iload_n hx hb dJ1_indexOfChar_4cfef_4 rfl (lv_at hl 3 rfl) ?_
  refine lv_istore (lv' := [(5, .int a2), (4, .int x1), (0, .ref v0), (1, .int a1), (2, .int a2), (3, .int a3)]) hx hb dJ1_indexOfChar_4cfef_5 hl (by decide) rfl (fun ls hl => ?_)
  exact t_J1_indexOfChar_4cfef_7 hX  hF hST FU a3 x1 a2 σ _ _ _ h hP hS (lv_sub hl [2, 5, 1, 0] rfl)

abbrev rm_J1_indexOf_4cfef : Room := { frames := 1, cells := 0, slots := 0, locals := 27 }
def f_J1_indexOf_4cfef (N : Nat) (bs : List Int32) (a1 : Int32) (a2 : Int32) (a3 : Int32) (σ : Sta) : Option (Int32 × Sta) :=
  bnd (f_J1_canEncode_9a6ad a1 σ) (fun r1 σ2 =>
  if r1 = 0 then
    some (-1, σ2)
  else
    lt (if a2 < 0 then 0 else a2) (fun x5 =>
    lt (if Int32.ofNat N < a3 then Int32.ofNat N else a3) (fun x6 =>
    if x5 < x6 then
      bnd (f_J1_indexOfChar_4cfef N bs a1 x5 x6 σ2) (fun r8 σ9 =>
      some (r8, σ9))
    else
      some (-1, σ2))))
set_option maxHeartbeats 4000000 in
set_option maxRecDepth 100000 in
theorem c_J1_indexOf_4cfef {l : Launch} {D : va_G} {Y : CYs} {E : Nat → Nat} {L : List Dsc} (hX : Lok L) {N : Nat} {bs : List Int32} {a1 : Int32} {a2 : Int32} {a3 : Int32} {a0 v0 : Nat} {σ : Sta} {o : Int32 × Sta} (h : f_J1_indexOf_4cfef N bs a1 a2 a3 σ = some o) : MIs l yJ1_indexOf_4cfef (Cond.code yJ1_indexOf_4cfef cJ1_indexOf_4cfef 4 (some .int) :: gW) rm_J1_indexOf_4cfef L Y D E N bs a0 v0 [.ref v0, .int a1, .int a2, .int a3] σ o := by
  intro sz
  refine Mets_of (Qc := fun sz => QI L Y D E sz o) (by decide) (Nat.le_of_ble_eq_true rfl) (fun p e s m args below meth c hF hST hP ls hl => ?_) sz
  have hS : va_S (AF E L.length s.heap.size) s.heap s.heap [] := va_S.rf
  have hl : lv_has ls 4 [(0, .ref v0), (1, .int a1), (2, .int a2), (3, .int a3)] := hl
  show WI p l e rm_J1_indexOf_4cfef s m args below meth c L Y D E o s.heap [] (F0 m 0 ls [])
  unfold f_J1_indexOf_4cfef at h
  obtain ⟨hC, hb, hml, hr, hlk, hD, hSW⟩ := id hF
  have hx := hC.1
  refine lv_iload_n hx hb dJ1_indexOf_4cfef_0 rfl (lv_at hl 1 rfl) ?_
  obtain ⟨r1, σ2, g3, h⟩ := of_bnd h
  refine x_SI (As := [.int a1]) (rest := []) hF hl hP hS (c_J1_canEncode_9a6ad hX g3) (cw_J1_88 hC rfl rfl ⟨Nat.le_of_ble_eq_true rfl, Nat.le_of_ble_eq_true rfl⟩) rfl rfl (Nat.le_of_ble_eq_true rfl) dJ1_indexOf_4cfef_1 ⟨Nat.zero_le _, Nat.zero_le _⟩ (fun H locs hP hS => ?_)
  refine lv_if_ne (tgt := 9) hx hb dJ1_indexOf_4cfef_4 (by decide) (fun c4 => ?_) (fun c4 => ?_)
  · have h := of_f h c4
    refine lv_iload_n hx hb dJ1_indexOf_4cfef_9 rfl (lv_at hl 2 rfl) ?_
    refine lv_iconst (v := 0) hx hb dJ1_indexOf_4cfef_10 (by decide) ?_
    refine va_mmax hx hb (by rw [hml]; exact hl.1.symm) hC.2.2.1 (hC.2.1 (Cond.methodLink RJ1 92 Lib.Math.max.name) (gw_t (tb5 (List.mem_of_getElem? (i := 138) rfl)) rfl)) (hC.2.1 (Cond.static Lib.Math.max.name) (gw_t (tb4 (List.mem_of_getElem? (i := 55) rfl)) rfl)) (hC.2.1 (Cond.initialized "java/lang/Math") (gw_t (tb1 (List.mem_of_getElem? (i := 16) rfl)) rfl)) (hC.2.1 (Cond.code Lib.Math.max.name Lib.Math.max.code 2 (some .int)) (gw_t (tb4 (List.mem_of_getElem? (i := 56) rfl)) rfl)) (Nat.le_of_ble_eq_true rfl) (Nat.le_of_ble_eq_true rfl) (Nat.zero_le _) (Nat.zero_le _) dJ1_indexOf_4cfef_11 ?_
    refine lv_topi (fun x5 ex5 => ?_)
    have h := of_lt h ex5
    refine lv_istore_n (lv' := [(2, .int x5), (0, .ref v0), (1, .int a1), (3, .int a3)]) hx hb dJ1_indexOf_4cfef_14 rfl hl (by decide) rfl (fun ls hl => ?_)
    refine lv_iload_n hx hb dJ1_indexOf_4cfef_15 rfl (lv_at hl 3 rfl) ?_
    refine lv_aload_n hx hb dJ1_indexOf_4cfef_16 rfl (lv_at hl 1 rfl) ?_
    refine va_tlen hx hb hST.2.2.2 hS (v := Int32.ofNat N) rfl dJ1_indexOf_4cfef_17 ?_
    refine va_mmin hx hb (by rw [hml]; exact hl.1.symm) hC.2.2.1 (hC.2.1 (Cond.methodLink RJ1 38 Lib.Math.min.name) (gw_t (tb5 (List.mem_of_getElem? (i := 139) rfl)) rfl)) (hC.2.1 (Cond.static Lib.Math.min.name) (gw_t (tb4 (List.mem_of_getElem? (i := 73) rfl)) rfl)) (hC.2.1 (Cond.initialized "java/lang/Math") (gw_t (tb1 (List.mem_of_getElem? (i := 16) rfl)) rfl)) (hC.2.1 (Cond.code Lib.Math.min.name Lib.Math.min.code 2 (some .int)) (gw_t (tb4 (List.mem_of_getElem? (i := 74) rfl)) rfl)) (Nat.le_of_ble_eq_true rfl) (Nat.le_of_ble_eq_true rfl) (Nat.zero_le _) (Nat.zero_le _) dJ1_indexOf_4cfef_18 ?_
    refine lv_topi (fun x6 ex6 => ?_)
    have h := of_lt h ex6
    refine lv_istore_n (lv' := [(3, .int x6), (2, .int x5), (0, .ref v0), (1, .int a1)]) hx hb dJ1_indexOf_4cfef_21 rfl hl (by decide) rfl (fun ls hl => ?_)
    refine lv_iload_n hx hb dJ1_indexOf_4cfef_22 rfl (lv_at hl 1 rfl) ?_
    refine lv_iload_n hx hb dJ1_indexOf_4cfef_23 rfl (lv_at hl 0 rfl) ?_
    refine lv_icmp_lt (tgt := 29) hx hb dJ1_indexOf_4cfef_24 (by decide) (fun c7 => ?_) (fun c7 => ?_)
    · have h := of_t h c7
      refine lv_aload_n hx hb dJ1_indexOf_4cfef_29 rfl (lv_at hl 2 rfl) ?_
      refine lv_iload_n hx hb dJ1_indexOf_4cfef_30 rfl (lv_at hl 3 rfl) ?_
      refine lv_iload_n hx hb dJ1_indexOf_4cfef_31 rfl (lv_at hl 1 rfl) ?_
      refine lv_iload_n hx hb dJ1_indexOf_4cfef_32 rfl (lv_at hl 0 rfl) ?_
      obtain ⟨r8, σ9, g10, h⟩ := of_bnd h
      refine x_SIs (As := [.ref v0, .int a1, .int x5, .int x6]) (rest := []) hF hST hl hP hS (c_J1_indexOfChar_4cfef hX g10) (cw_J1_95 hC rfl rfl ⟨Nat.le_of_ble_eq_true rfl, Nat.le_of_ble_eq_true rfl⟩) rfl rfl (Nat.le_of_ble_eq_true rfl) dJ1_indexOf_4cfef_33 ⟨Nat.zero_le _, Nat.zero_le _⟩ (fun H locs hP hS => ?_)
      exact x_iret hF hP hS h dJ1_indexOf_4cfef_36
    · have h := of_f h c7
      refine lv_iconst (v := -1) hx hb dJ1_indexOf_4cfef_27 (by decide) ?_
      exact x_iret hF hP hS h dJ1_indexOf_4cfef_28
  · have h := of_t h c4
    refine lv_iconst (v := -1) hx hb dJ1_indexOf_4cfef_7 (by decide) ?_
    exact x_iret hF hP hS h dJ1_indexOf_4cfef_8

abbrev rm_J0_indexOf_7cf53 : Room := { frames := 2, cells := 0, slots := 0, locals := 50 }
def f_J0_indexOf_7cf53_36 (N : Nat) (bs : List Int32) (s0 : Int32) (σ : Sta) : Option (Int32 × Sta) :=
  some (s0, σ)
set_option maxHeartbeats 4000000 in
set_option maxRecDepth 100000 in
theorem t_J0_indexOf_7cf53_36 {l : Launch} {D : va_G} {Y : CYs} {E : Nat → Nat} {L : List Dsc} (hX : Lok L) {p : Program} {e : Env} {s : State} {m : MethodId} {args : Array Value} {below : List Frame} {meth : Method} {c : Code} {N : Nat} {bs : List Int32} {a0 v0 : Nat} (hF : Fr p s m args meth c RJ0 cJ0_indexOf_7cf53 3 (some .int) D Y E L) (hST : STA N bs a0 v0 (AF E L.length s.heap.size) s s.heap) {o : Int32 × Sta} : ∀ (s0 : Int32) (σ : Sta) (H : Heap) (locs : List Loc) (ls : Array Slot), f_J0_indexOf_7cf53_36 N bs s0 σ = some o → va_P D vwCl (wd Y E σ 0 L) H → va_S (AF E L.length s.heap.size) s.heap H locs → lv_has ls 3 [] → WI p l e rm_J0_indexOf_7cf53 s m args below meth c L Y D E o H locs (F0 m 36 ls [.int s0]) := by
  intro s0 σ H locs ls h hP hS hl
  unfold f_J0_indexOf_7cf53_36 at h
  obtain ⟨hC, hb, hml, hr, hlk, hD, hSW⟩ := id hF
  have hx := hC.1
  exact x_iret hF hP hS h dJ0_indexOf_7cf53_36

def f_J0_indexOf_7cf53 (N : Nat) (bs : List Int32) (a1 : Int32) (a2 : Int32) (σ : Sta) : Option (Int32 × Sta) :=
  bnd (f_J0_isLatin1_aae02 N bs σ) (fun r1 σ2 =>
  if r1 = 0 then
    bnd (f_J0_length_8abf5 N bs σ2) (fun r5 σ6 =>
    none)
  else
    bnd (f_J0_length_8abf5 N bs σ2) (fun r8 σ9 =>
    bnd (f_J1_indexOf_4cfef N bs a1 a2 r8 σ9) (fun r11 σ12 =>
    f_J0_indexOf_7cf53_36 N bs r11 σ12)))
set_option maxHeartbeats 4000000 in
set_option maxRecDepth 100000 in
theorem c_J0_indexOf_7cf53 {l : Launch} {D : va_G} {Y : CYs} {E : Nat → Nat} {L : List Dsc} (hX : Lok L) {N : Nat} {bs : List Int32} {a1 : Int32} {a2 : Int32} {a0 v0 : Nat} {σ : Sta} {o : Int32 × Sta} (h : f_J0_indexOf_7cf53 N bs a1 a2 σ = some o) : MIs l yJ0_indexOf_7cf53 (Cond.code yJ0_indexOf_7cf53 cJ0_indexOf_7cf53 3 (some .int) :: gW) rm_J0_indexOf_7cf53 L Y D E N bs a0 v0 [.ref a0, .int a1, .int a2] σ o := by
  intro sz
  refine Mets_of (Qc := fun sz => QI L Y D E sz o) (by decide) (Nat.le_of_ble_eq_true rfl) (fun p e s m args below meth c hF hST hP ls hl => ?_) sz
  have hS : va_S (AF E L.length s.heap.size) s.heap s.heap [] := va_S.rf
  have hl : lv_has ls 3 [(0, .ref a0), (1, .int a1), (2, .int a2)] := hl
  show WI p l e rm_J0_indexOf_7cf53 s m args below meth c L Y D E o s.heap [] (F0 m 0 ls [])
  unfold f_J0_indexOf_7cf53 at h
  obtain ⟨hC, hb, hml, hr, hlk, hD, hSW⟩ := id hF
  have hx := hC.1
  refine lv_aload_n hx hb dJ0_indexOf_7cf53_0 rfl (lv_at hl 0 rfl) ?_
  obtain ⟨r1, σ2, g3, h⟩ := of_bnd h
  refine x_VIs (As := []) (rest := []) hF hST hl hP hS (c_J0_isLatin1_aae02 hX g3) (cw_J0_492 hC rfl rfl ⟨Nat.le_of_ble_eq_true rfl, Nat.le_of_ble_eq_true rfl⟩) rfl rfl (Nat.le_of_ble_eq_true rfl) dJ0_indexOf_7cf53_1 ⟨Nat.zero_le _, Nat.zero_le _⟩ (fun H locs hP hS => ?_)
  refine lv_if_eq (tgt := 23) hx hb dJ0_indexOf_7cf53_4 (by decide) (fun c4 => ?_) (fun c4 => ?_)
  · have h := of_t h c4
    refine lv_aload_n hx hb dJ0_indexOf_7cf53_23 rfl (lv_at hl 0 rfl) ?_
    refine vk_getf hx hb hST.2.2.1 hS hC.2.2.1 (hC.2.1 (Cond.fieldLink RJ0 9 "java/lang/String" "value" "[B") (gw_t (tb4 (List.mem_of_getElem? (i := 227) rfl)) rfl)) (fun _ h => h) dJ0_indexOf_7cf53_24 ?_
    refine lv_iload_n hx hb dJ0_indexOf_7cf53_27 rfl (lv_at hl 1 rfl) ?_
    refine lv_iload_n hx hb dJ0_indexOf_7cf53_28 rfl (lv_at hl 2 rfl) ?_
    refine lv_aload_n hx hb dJ0_indexOf_7cf53_29 rfl (lv_at hl 0 rfl) ?_
    obtain ⟨r5, σ6, g7, h⟩ := of_bnd h
    refine x_VIs (As := []) (rest := [.int a2, .int a1, .ref v0]) hF hST hl hP hS (c_J0_length_8abf5 hX g7) (cw_J0_505 hC rfl rfl ⟨Nat.le_of_ble_eq_true rfl, Nat.le_of_ble_eq_true rfl⟩) rfl rfl (Nat.le_of_ble_eq_true rfl) dJ0_indexOf_7cf53_30 ⟨Nat.zero_le _, Nat.zero_le _⟩ (fun H locs hP hS => ?_)
    exact nomatch h
  · have h := of_f h c4
    refine lv_aload_n hx hb dJ0_indexOf_7cf53_7 rfl (lv_at hl 0 rfl) ?_
    refine vk_getf hx hb hST.2.2.1 hS hC.2.2.1 (hC.2.1 (Cond.fieldLink RJ0 9 "java/lang/String" "value" "[B") (gw_t (tb4 (List.mem_of_getElem? (i := 227) rfl)) rfl)) (fun _ h => h) dJ0_indexOf_7cf53_8 ?_
    refine lv_iload_n hx hb dJ0_indexOf_7cf53_11 rfl (lv_at hl 1 rfl) ?_
    refine lv_iload_n hx hb dJ0_indexOf_7cf53_12 rfl (lv_at hl 2 rfl) ?_
    refine lv_aload_n hx hb dJ0_indexOf_7cf53_13 rfl (lv_at hl 0 rfl) ?_
    obtain ⟨r8, σ9, g10, h⟩ := of_bnd h
    refine x_VIs (As := []) (rest := [.int a2, .int a1, .ref v0]) hF hST hl hP hS (c_J0_length_8abf5 hX g10) (cw_J0_505 hC rfl rfl ⟨Nat.le_of_ble_eq_true rfl, Nat.le_of_ble_eq_true rfl⟩) rfl rfl (Nat.le_of_ble_eq_true rfl) dJ0_indexOf_7cf53_14 ⟨Nat.zero_le _, Nat.zero_le _⟩ (fun H locs hP hS => ?_)
    obtain ⟨r11, σ12, g13, h⟩ := of_bnd h
    refine x_SIs (As := [.ref v0, .int a1, .int a2, .int r8]) (rest := []) hF hST hl hP hS (c_J1_indexOf_4cfef hX g13) (cw_J0_637 hC rfl rfl ⟨Nat.le_of_ble_eq_true rfl, Nat.le_of_ble_eq_true rfl⟩) rfl rfl (Nat.le_of_ble_eq_true rfl) dJ0_indexOf_7cf53_17 ⟨Nat.zero_le _, Nat.zero_le _⟩ (fun H locs hP hS => ?_)
    refine lv_goto (tgt := 36) hx hb dJ0_indexOf_7cf53_20 (by decide) ?_
    exact t_J0_indexOf_7cf53_36 hX  hF hST r11 σ12 _ _ _ h hP hS (lv_sub hl [] rfl)

abbrev rm_J0_indexOf_0f7a4 : Room := { frames := 3, cells := 0, slots := 0, locals := 72 }
def f_J0_indexOf_0f7a4 (N : Nat) (bs : List Int32) (a1 : Int32) (σ : Sta) : Option (Int32 × Sta) :=
  bnd (f_J0_indexOf_7cf53 N bs a1 0 σ) (fun r1 σ2 =>
  some (r1, σ2))
set_option maxHeartbeats 4000000 in
set_option maxRecDepth 100000 in
theorem c_J0_indexOf_0f7a4 {l : Launch} {D : va_G} {Y : CYs} {E : Nat → Nat} {L : List Dsc} (hX : Lok L) {N : Nat} {bs : List Int32} {a1 : Int32} {a0 v0 : Nat} {σ : Sta} {o : Int32 × Sta} (h : f_J0_indexOf_0f7a4 N bs a1 σ = some o) : MIs l yJ0_indexOf_0f7a4 (Cond.code yJ0_indexOf_0f7a4 cJ0_indexOf_0f7a4 2 (some .int) :: gW) rm_J0_indexOf_0f7a4 L Y D E N bs a0 v0 [.ref a0, .int a1] σ o := by
  intro sz
  refine Mets_of (Qc := fun sz => QI L Y D E sz o) (by decide) (Nat.le_of_ble_eq_true rfl) (fun p e s m args below meth c hF hST hP ls hl => ?_) sz
  have hS : va_S (AF E L.length s.heap.size) s.heap s.heap [] := va_S.rf
  have hl : lv_has ls 2 [(0, .ref a0), (1, .int a1)] := hl
  show WI p l e rm_J0_indexOf_0f7a4 s m args below meth c L Y D E o s.heap [] (F0 m 0 ls [])
  unfold f_J0_indexOf_0f7a4 at h
  obtain ⟨hC, hb, hml, hr, hlk, hD, hSW⟩ := id hF
  have hx := hC.1
  refine lv_aload_n hx hb dJ0_indexOf_0f7a4_0 rfl (lv_at hl 0 rfl) ?_
  refine lv_iload_n hx hb dJ0_indexOf_0f7a4_1 rfl (lv_at hl 1 rfl) ?_
  refine lv_iconst (v := 0) hx hb dJ0_indexOf_0f7a4_2 (by decide) ?_
  obtain ⟨r1, σ2, g3, h⟩ := of_bnd h
  refine x_VIs (As := [.int a1, .int 0]) (rest := []) hF hST hl hP hS (c_J0_indexOf_7cf53 hX g3) (cw_J0_633 hC rfl rfl ⟨Nat.le_of_ble_eq_true rfl, Nat.le_of_ble_eq_true rfl⟩) rfl rfl (Nat.le_of_ble_eq_true rfl) dJ0_indexOf_0f7a4_3 ⟨Nat.zero_le _, Nat.zero_le _⟩ (fun H locs hP hS => ?_)
  exact x_iret hF hP hS h dJ0_indexOf_0f7a4_6
