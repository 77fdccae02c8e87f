/-! The model's constructor: its words (by wip/whole/ctormt.py). -/
theorem cw_X10_130 {R : Room} {p : Program} {s : State} {m : MethodId} {args : Array Value} {D : va_G} {Y : CYs} {rm : Room} (hC : Ctx p s m args RX10 D Y) (hrc : rm.cells = 0) (hrs : rm.slots = 0) (hR : rm.frames + 1 ≤ R.frames ∧ 8 + (3 + 11) + rm.locals ≤ R.locals) : CallW R s args RX10 RJ0 130 yJ0_indexOf_7cf53 cJ0_indexOf_7cf53 3 (some .int) (Cond.code yJ0_indexOf_7cf53 cJ0_indexOf_7cf53 3 (some .int) :: gW) rm 0 0 2 :=
  cwV 2 hC.2.1 (gi_V (gw_t (tb6 (List.mem_of_getElem? (i := 42) rfl)) rfl) (gw_t (tb3 (List.mem_of_getElem? (i := 4) rfl)) rfl) (gw_t (tb3 (List.mem_of_getElem? (i := 5) rfl)) rfl) (gw_t (tb1 (List.mem_of_getElem? (i := 11) rfl)) rfl) (gw_t (tb3 (List.mem_of_getElem? (i := 6) rfl)) rfl)) rfl hrc hrs ⟨rfl, by decide +kernel, by decide +kernel, by decide +kernel⟩ hR
theorem cw_X10_136 {R : Room} {p : Program} {s : State} {m : MethodId} {args : Array Value} {D : va_G} {Y : CYs} {rm : Room} (hC : Ctx p s m args RX10 D Y) (hrc : rm.cells = 0) (hrs : rm.slots = 0) (hR : rm.frames + 1 ≤ R.frames ∧ 8 + (2 + 11) + rm.locals ≤ R.locals) : CallW R s args RX10 RJ0 136 yJ0_charAt_5068e cJ0_charAt_5068e 2 (some .char) (Cond.code yJ0_charAt_5068e cJ0_charAt_5068e 2 (some .char) :: gW) rm 0 0 1 :=
  cwV 1 hC.2.1 (gi_V (gw_t (tb6 (List.mem_of_getElem? (i := 43) rfl)) rfl) (gw_t (tb2 (List.mem_of_getElem? (i := 185) rfl)) rfl) (gw_t (tb2 (List.mem_of_getElem? (i := 186) rfl)) rfl) (gw_t (tb1 (List.mem_of_getElem? (i := 11) rfl)) rfl) (gw_t (tb2 (List.mem_of_getElem? (i := 187) rfl)) rfl)) rfl hrc hrs ⟨rfl, by decide +kernel, by decide +kernel, by decide +kernel⟩ hR
abbrev rm_X10_init : Room := { frames := 5, cells := 37, slots := 162982, locals := 112 }
def f_X10_init_337 (k316 : Int32 → Int32 → Sta → Option (Unit × Sta)) : Nat → Int32 → Int32 → Int32 → Sta → Option (Unit × Sta)
  | 0, _, _, _, _ => none
  | n + 1, v2, v3, v4, σ => if v3 ≤ v4 then
      lt (v3 + 1) (fun x2 =>
      lt (v2 + 1) (fun x3 =>
      k316 x2 x3 σ))
    else
      if v2 < 0 ∨ 17 ≤ (v2.toNatClampNeg) then none else (
      bnd (f_J0_charAt_5068e 67 bKW v4 σ) (fun r6 σ7 =>
      if v2 < 0 ∨ 17 ≤ (v2.toNatClampNeg) then none else (
      lt (sJ σ7 1 (vp_updL (gJ σ7 1) (v2.toNatClampNeg) (((gJ σ 1 (v2.toNatClampNeg)) <<< ((8 : Int32).toInt64 &&& 63)) ||| r6.toInt64))) (fun σ10 =>
      lt (v4 + 1) (fun x11 =>
      f_X10_init_337 k316 n v2 v3 x11 σ10)))))
set_option maxHeartbeats 4000000 in
set_option maxRecDepth 100000 in
theorem t_X10_init_337 {l : Launch} {D : va_G} {Y : CYs} {E : Nat → Nat} {X : List Dsc} (hX : Lok (LM ++ X)) {p : Program} {e : Env} {s : State} {m : MethodId} {args : Array Value} {below : List Frame} {meth : Method} {c : Code} (hF : Fr p s m args meth c RX10 cX10_init 5 none D Y E (LM ++ X)) {o : Unit × Sta} {Q : State → Prop} (hQ : ∀ (H : Heap) (locs : List Loc) (ls : Array Slot), va_P D vwCl (wd Y E o.2 0 (LM ++ X)) H → va_S (AF E (LM ++ X).length s.heap.size) s.heap H locs → W p l e rm_X10_init s m args below meth c H locs 37 162982 Q (F0 m 383 ls [])) (k316 : Int32 → Int32 → Sta → Option (Unit × Sta)) (hk316 : ∀ (v1 : Int32) (v2 : Int32) (σ : Sta) (H : Heap) (locs : List Loc) (ls : Array Slot), k316 v1 v2 σ = some o → va_P D vwCl (wd Y E σ 0 (LM ++ X)) H → va_S (AF E (LM ++ X).length s.heap.size) s.heap H locs → lv_has ls 5 [(0, .ref (E 0)), (1, .int v1), (2, .int v2)] → W p l e rm_X10_init s m args below meth c H locs 37 162982 Q (F0 m 316 ls [])) : ∀ (n : Nat) (v2 : Int32) (v3 : Int32) (v4 : Int32) (σ : Sta) (H : Heap) (locs : List Loc) (ls : Array Slot), f_X10_init_337 k316 n v2 v3 v4 σ = some o → va_P D vwCl (wd Y E σ 0 (LM ++ X)) H → va_S (AF E (LM ++ X).length s.heap.size) s.heap H locs → lv_has ls 5 [(0, .ref (E 0)), (2, .int v2), (3, .int v3), (4, .int v4)] → W p l e rm_X10_init s m args below meth c H locs 37 162982 Q (F0 m 337 ls []) := by
  intro n
  induction n with
  | zero =>
    intro v2 v3 v4 σ H locs ls h hP hS hl
    exact nomatch (show (none : Option (Unit × Sta)) = some o from h)
  | succ n ih =>
    intro v2 v3 v4 σ H locs ls h hP hS hl
    rw [f_X10_init_337] at h
    obtain ⟨hC, hb, hml, hr, hlk, hD, hSW⟩ := id hF
    have hx := hC.1
    refine lv_iload hx hb dX10_init_337 (lv_at hl 3 rfl) ?_
    refine lv_iload_n hx hb dX10_init_339 rfl (lv_at hl 2 rfl) ?_
    refine lv_icmp_ge (tgt := 373) hx hb dX10_init_340 (by decide) (fun c1 => ?_) (fun c1 => ?_)
    · have h := of_t h c1
      refine lv_iload_n hx hb dX10_init_373 rfl (lv_at hl 2 rfl) ?_
      refine lv_iconst (v := 1) hx hb dX10_init_374 (by decide) ?_
      refine lv_iadd hx hb dX10_init_375 ?_
      refine lv_topi (fun x2 ex2 => ?_)
      have h := of_lt h ex2
      refine lv_istore_n (lv' := [(1, .int x2), (0, .ref (E 0)), (2, .int v2), (3, .int v3), (4, .int v4)]) hx hb dX10_init_376 rfl hl (by decide) rfl (fun ls hl => ?_)
      obtain ⟨x3, ex3⟩ : ∃ y : Int32, y = v2 + 1 := ⟨_, rfl⟩
      have h := of_lt h ex3
      refine lv_iinc (v := x3) (lv' := [(2, .int x3), (1, .int x2), (0, .ref (E 0)), (3, .int v3), (4, .int v4)]) hx hb dX10_init_377 hl (k := 2) rfl (by rw [ex3]; rfl) (by decide) rfl (fun ls hl => ?_)
      refine lv_goto (tgt := 316) hx hb dX10_init_380 (by decide) ?_
      exact hk316 x2 x3 σ _ _ _ h hP hS (lv_sub hl [2, 1, 0] rfl)
    · have h := of_f h c1
      refine lv_aload_n hx hb dX10_init_343 rfl (lv_at hl 0 rfl) ?_
      refine gf_X10_9 hC hb hP dX10_init_344 ?_
      refine lv_iload_n hx hb dX10_init_347 rfl (lv_at hl 1 rfl) ?_
      refine lv_aload_n hx hb dX10_init_348 rfl (lv_at hl 0 rfl) ?_
      refine gf_X10_9 hC hb hP dX10_init_349 ?_
      refine lv_iload_n hx hb dX10_init_352 rfl (lv_at hl 1 rfl) ?_
      obtain ⟨g4, h⟩ := of_gd h
      refine x_lald hC hb hP (lm_1 X) g4 dX10_init_353 ?_
      refine lv_bipush (v := 8) hx hb dX10_init_354 (by decide) ?_
      refine lv_lshl (v := (gJ σ 1 (v2.toNatClampNeg)) <<< ((8 : Int32).toInt64 &&& 63)) hx hb dX10_init_356 rfl ?_
      obtain ⟨a5, vs5, hRa5, hSTa5⟩ := hSW.1 _ (List.mem_of_getElem? (i := 2) rfl)
      refine va_ldcS hx hb hC.2.2.1 hRa5 dX10_init_357 ?_
      refine lv_iload hx hb dX10_init_359 (lv_at hl 3 rfl) ?_
      obtain ⟨r6, σ7, g8, h⟩ := of_bnd h
      refine x_VIs (As := [.int v4]) (rest := [.long ((gJ σ 1 (v2.toNatClampNeg)) <<< ((8 : Int32).toInt64 &&& 63)), .int v2, .ref (E 1)]) hF hSTa5 hl hP hS (c_J0_charAt_5068e hX g8) (cw_X10_136 hC rfl rfl ⟨Nat.le_of_ble_eq_true rfl, Nat.le_of_ble_eq_true rfl⟩) rfl rfl (Nat.le_of_ble_eq_true rfl) dX10_init_361 ⟨Nat.le_of_ble_eq_true rfl, Nat.le_of_ble_eq_true rfl⟩ (fun H locs hP hS => ?_)
      refine lv_i2l (v := r6.toInt64) hx hb dX10_init_364 rfl ?_
      refine lv_lor hx hb dX10_init_365 ?_
      obtain ⟨g9, h⟩ := of_gd h
      refine x_last hX hC hb hP hD hS (lm_1 X) g9 dX10_init_366 (fun H locs σ10 eσ10 hP hS => ?_)
      have h := of_lt h eσ10
      obtain ⟨x11, ex11⟩ : ∃ y : Int32, y = v4 + 1 := ⟨_, rfl⟩
      have h := of_lt h ex11
      refine lv_iinc (v := x11) (lv' := [(4, .int x11), (0, .ref (E 0)), (2, .int v2), (3, .int v3)]) hx hb dX10_init_367 hl (k := 3) rfl (by rw [ex11]; rfl) (by decide) rfl (fun ls hl => ?_)
      refine lv_goto (tgt := 337) hx hb dX10_init_370 (by decide) ?_
      exact ih v2 v3 x11 σ10 _ _ _ h hP hS (lv_sub hl [1, 2, 3, 0] rfl)

def f_X10_init_316 : Nat → Int32 → Int32 → Sta → Option (Unit × Sta)
  | 0, _, _, _ => none
  | n + 1, v1, v2, σ => if 17 ≤ v2 then
      some ((), σ)
    else
      bnd (f_J0_indexOf_7cf53 67 bKW 32 v1 σ) (fun r3 σ4 =>
      f_X10_init_337 (f_X10_init_316 n) FU v2 r3 v1 σ4)
set_option maxHeartbeats 4000000 in
set_option maxRecDepth 100000 in
theorem t_X10_init_316 {l : Launch} {D : va_G} {Y : CYs} {E : Nat → Nat} {X : List Dsc} (hX : Lok (LM ++ X)) {p : Program} {e : Env} {s : State} {m : MethodId} {args : Array Value} {below : List Frame} {meth : Method} {c : Code} (hF : Fr p s m args meth c RX10 cX10_init 5 none D Y E (LM ++ X)) {o : Unit × Sta} {Q : State → Prop} (hQ : ∀ (H : Heap) (locs : List Loc) (ls : Array Slot), va_P D vwCl (wd Y E o.2 0 (LM ++ X)) H → va_S (AF E (LM ++ X).length s.heap.size) s.heap H locs → W p l e rm_X10_init s m args below meth c H locs 37 162982 Q (F0 m 383 ls [])) : ∀ (n : Nat) (v1 : Int32) (v2 : Int32) (σ : Sta) (H : Heap) (locs : List Loc) (ls : Array Slot), f_X10_init_316 n v1 v2 σ = some o → va_P D vwCl (wd Y E σ 0 (LM ++ X)) H → va_S (AF E (LM ++ X).length s.heap.size) s.heap H locs → lv_has ls 5 [(0, .ref (E 0)), (1, .int v1), (2, .int v2)] → W p l e rm_X10_init s m args below meth c H locs 37 162982 Q (F0 m 316 ls []) := by
  intro n
  induction n with
  | zero =>
    intro v1 v2 σ H locs ls h hP hS hl
    exact nomatch (show (none : Option (Unit × Sta)) = some o from h)
  | succ n ih =>
    intro v1 v2 σ H locs ls h hP hS hl
    rw [f_X10_init_316] at h
    obtain ⟨hC, hb, hml, hr, hlk, hD, hSW⟩ := id hF
    have hx := hC.1
    refine lv_iload_n hx hb dX10_init_316 rfl (lv_at hl 2 rfl) ?_
    refine lv_aload_n hx hb dX10_init_317 rfl (lv_at hl 0 rfl) ?_
    refine gf_X10_9 hC hb hP dX10_init_318 ?_
    refine x_alen (v := 17) hC hb hP (lm_1 X) (Or.inr (Or.inl rfl)) (by decide) dX10_init_321 ?_
    refine lv_icmp_ge (tgt := 383) hx hb dX10_init_322 (by decide) (fun c1 => ?_) (fun c1 => ?_)
    · have h := of_t h c1
      cases h
      exact hQ H locs ls hP hS
    · have h := of_f h c1
      obtain ⟨a2, vs2, hRa2, hSTa2⟩ := hSW.1 _ (List.mem_of_getElem? (i := 2) rfl)
      refine va_ldcS hx hb hC.2.2.1 hRa2 dX10_init_325 ?_
      refine lv_bipush (v := 32) hx hb dX10_init_327 (by decide) ?_
      refine lv_iload_n hx hb dX10_init_329 rfl (lv_at hl 1 rfl) ?_
      obtain ⟨r3, σ4, g5, h⟩ := of_bnd h
      refine x_VIs (As := [.int 32, .int v1]) (rest := []) hF hSTa2 hl hP hS (c_J0_indexOf_7cf53 hX g5) (cw_X10_130 hC rfl rfl ⟨Nat.le_of_ble_eq_true rfl, Nat.le_of_ble_eq_true rfl⟩) rfl rfl (Nat.le_of_ble_eq_true rfl) dX10_init_330 ⟨Nat.le_of_ble_eq_true rfl, Nat.le_of_ble_eq_true rfl⟩ (fun H locs hP hS => ?_)
      refine lv_istore_n (lv' := [(3, .int r3), (0, .ref (E 0)), (1, .int v1), (2, .int v2)]) hx hb dX10_init_333 rfl hl (by decide) rfl (fun ls hl => ?_)
      refine lv_iload_n hx hb dX10_init_334 rfl (lv_at hl 2 rfl) ?_
      refine lv_istore (lv' := [(4, .int v1), (3, .int r3), (0, .ref (E 0)), (1, .int v1), (2, .int v2)]) hx hb dX10_init_335 hl (by decide) rfl (fun ls hl => ?_)
      exact t_X10_init_337 hX  hF hQ (f_X10_init_316 n) ih FU v2 r3 v1 σ4 _ _ _ h hP hS (lv_sub hl [2, 4, 1, 0] rfl)

def f_X10_init (σ : Sta) : Option (Unit × Sta) :=
  f_X10_init_316 FU 0 0 σ
set_option maxHeartbeats 4000000 in
set_option maxRecDepth 100000 in
theorem t_X10_init {l : Launch} {D : va_G} {Y : CYs} {E : Nat → Nat} {X : List Dsc} (hX : Lok (LM ++ X)) {p : Program} {e : Env} {s : State} {m : MethodId} {args : Array Value} {below : List Frame} {meth : Method} {c : Code} (hF : Fr p s m args meth c RX10 cX10_init 5 none D Y E (LM ++ X)) {o : Unit × Sta} {Q : State → Prop} (hQ : ∀ (H : Heap) (locs : List Loc) (ls : Array Slot), va_P D vwCl (wd Y E o.2 0 (LM ++ X)) H → va_S (AF E (LM ++ X).length s.heap.size) s.heap H locs → W p l e rm_X10_init s m args below meth c H locs 37 162982 Q (F0 m 383 ls [])) {σ : Sta} {H : Heap} {locs : List Loc} {ls : Array Slot} (h : f_X10_init σ = some o) (hP : va_P D vwCl (wd Y E σ 0 (LM ++ X)) H) (hS : va_S (AF E (LM ++ X).length s.heap.size) s.heap H locs) (hl : lv_has ls 5 [(0, .ref (E 0))]) : W p l e rm_X10_init s m args below meth c H locs 37 162982 Q (F0 m 312 ls []) := by
  unfold f_X10_init at h
  obtain ⟨hC, hb, hml, hr, hlk, hD, hSW⟩ := id hF
  have hx := hC.1
  refine lv_iconst (v := 0) hx hb dX10_init_312 (by decide) ?_
  refine lv_istore_n (lv' := [(1, .int 0), (0, .ref (E 0))]) hx hb dX10_init_313 rfl hl (by decide) rfl (fun ls hl => ?_)
  refine lv_iconst (v := 0) hx hb dX10_init_314 (by decide) ?_
  refine lv_istore_n (lv' := [(2, .int 0), (1, .int 0), (0, .ref (E 0))]) hx hb dX10_init_315 rfl hl (by decide) rfl (fun ls hl => ?_)
  exact t_X10_init_316 hX  hF hQ FU 0 0 σ _ _ _ h hP hS (lv_sub hl [2, 1, 0] rfl)
