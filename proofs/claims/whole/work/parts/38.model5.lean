theorem gf_X10_94 {p : Program} {l : Launch} {e : Env} {R : Room} {s : State} {m : MethodId} {args : Array Value} {below : List Frame} {meth : Method} {c : Code} {H : Heap} {locs : List Loc} {cells slots : Nat} {Q : State → Prop} {D : va_G} {Y : CYs} {E : Nat → Nat} {σ : Sta} {cc : ByteArray} {pc : Nat} {ls : Array Slot} {rest : List Value} {X : List Dsc} (hC : Ctx p s m args RX10 D Y) (hb : c.code = cc) (hP : va_P D vwCl (wd Y E σ 0 (LM ++ X)) H) (hdg : decode cc pc = .ok (.getfield 94, 3)) (kk : W p l e R s m args below meth c H locs cells slots Q (F0 m (pc + 3) ls (.ref (E 27) :: rest))) : W p l e R s m args below meth c H locs cells slots Q (F0 m pc ls (.ref (E 0) :: rest)) :=
  x_getR hC hb hP inGX10 (lm_0 X) rfl 44 (by decide) rfl (gw_t (tb6 (List.mem_of_getElem? (i := 88) rfl)) rfl) rfl hdg kk
theorem cw_X10_370 {R : Room} {p : Program} {s : State} {m : MethodId} {args : Array Value} {D : va_G} {Y : CYs} {rm : Room} (hC : Ctx p s m args RX10 D Y) (hrc : rm.cells = 0) (hrs : rm.slots = 0) (hR : rm.frames + 1 ≤ R.frames ∧ 8 + (5 + 11) + rm.locals ≤ R.locals) : CallB R s args RX10 370 yX10_two cX10_two 5 (some .long) (Cond.code yX10_two cX10_two 5 (some .long) :: gW) rm 0 0 3 ∧ (Cond.static yX10_two).before args s = true :=
  ⟨callB_of 3 hC.2.1 (gi_law (gw_t (tb7 (List.mem_of_getElem? (i := 197) rfl)) rfl)) rfl hrc hrs (hC.2.1 (Cond.initialized RX10) (gw_t (tb1 (List.mem_of_getElem? (i := 10) rfl)) rfl)) (hC.2.1 (Cond.methodLink RX10 370 yX10_two) (gw_t (tb7 (List.mem_of_getElem? (i := 195) rfl)) rfl)) ⟨by decide +kernel, by decide +kernel, by decide +kernel⟩ hR, hC.2.1 (Cond.static yX10_two) (gw_t (tb7 (List.mem_of_getElem? (i := 196) rfl)) rfl)⟩
theorem gf_X10_75 {p : Program} {l : Launch} {e : Env} {R : Room} {s : State} {m : MethodId} {args : Array Value} {below : List Frame} {meth : Method} {c : Code} {H : Heap} {locs : List Loc} {cells slots : Nat} {Q : State → Prop} {D : va_G} {Y : CYs} {E : Nat → Nat} {σ : Sta} {cc : ByteArray} {pc : Nat} {ls : Array Slot} {rest : List Value} {X : List Dsc} (hC : Ctx p s m args RX10 D Y) (hb : c.code = cc) (hP : va_P D vwCl (wd Y E σ 0 (LM ++ X)) H) (hdg : decode cc pc = .ok (.getfield 75, 3)) (kk : W p l e R s m args below meth c H locs cells slots Q (F0 m (pc + 3) ls (.ref (E 21) :: rest))) : W p l e R s m args below meth c H locs cells slots Q (F0 m pc ls (.ref (E 0) :: rest)) :=
  x_getR hC hb hP inGX10 (lm_0 X) rfl 38 (by decide) rfl (gw_t (tb6 (List.mem_of_getElem? (i := 82) rfl)) rfl) rfl hdg kk
theorem gf_X10_213 {p : Program} {l : Launch} {e : Env} {R : Room} {s : State} {m : MethodId} {args : Array Value} {below : List Frame} {meth : Method} {c : Code} {H : Heap} {locs : List Loc} {cells slots : Nat} {Q : State → Prop} {D : va_G} {Y : CYs} {E : Nat → Nat} {σ : Sta} {cc : ByteArray} {pc : Nat} {ls : Array Slot} {rest : List Value} {X : List Dsc} (hC : Ctx p s m args RX10 D Y) (hb : c.code = cc) (hP : va_P D vwCl (wd Y E σ 0 (LM ++ X)) H) (hdg : decode cc pc = .ok (.getfield 213, 3)) (kk : W p l e R s m args below meth c H locs cells slots Q (F0 m (pc + 3) ls (.int (gI σ 37) :: rest))) : W p l e R s m args below meth c H locs cells slots Q (F0 m pc ls (.ref (E 0) :: rest)) :=
  x_getI hC hb hP inGX10 (lm_0 X) rfl 37 (by decide) rfl (gw_t (tb6 (List.mem_of_getElem? (i := 81) rfl)) rfl) rfl hdg kk
theorem gf_X10_97 {p : Program} {l : Launch} {e : Env} {R : Room} {s : State} {m : MethodId} {args : Array Value} {below : List Frame} {meth : Method} {c : Code} {H : Heap} {locs : List Loc} {cells slots : Nat} {Q : State → Prop} {D : va_G} {Y : CYs} {E : Nat → Nat} {σ : Sta} {cc : ByteArray} {pc : Nat} {ls : Array Slot} {rest : List Value} {X : List Dsc} (hC : Ctx p s m args RX10 D Y) (hb : c.code = cc) (hP : va_P D vwCl (wd Y E σ 0 (LM ++ X)) H) (hdg : decode cc pc = .ok (.getfield 97, 3)) (kk : W p l e R s m args below meth c H locs cells slots Q (F0 m (pc + 3) ls (.ref (E 28) :: rest))) : W p l e R s m args below meth c H locs cells slots Q (F0 m pc ls (.ref (E 0) :: rest)) :=
  x_getR hC hb hP inGX10 (lm_0 X) rfl 45 (by decide) rfl (gw_t (tb6 (List.mem_of_getElem? (i := 89) rfl)) rfl) rfl hdg kk
theorem gf_X10_88 {p : Program} {l : Launch} {e : Env} {R : Room} {s : State} {m : MethodId} {args : Array Value} {below : List Frame} {meth : Method} {c : Code} {H : Heap} {locs : List Loc} {cells slots : Nat} {Q : State → Prop} {D : va_G} {Y : CYs} {E : Nat → Nat} {σ : Sta} {cc : ByteArray} {pc : Nat} {ls : Array Slot} {rest : List Value} {X : List Dsc} (hC : Ctx p s m args RX10 D Y) (hb : c.code = cc) (hP : va_P D vwCl (wd Y E σ 0 (LM ++ X)) H) (hdg : decode cc pc = .ok (.getfield 88, 3)) (kk : W p l e R s m args below meth c H locs cells slots Q (F0 m (pc + 3) ls (.ref (E 25) :: rest))) : W p l e R s m args below meth c H locs cells slots Q (F0 m pc ls (.ref (E 0) :: rest)) :=
  x_getR hC hb hP inGX10 (lm_0 X) rfl 42 (by decide) rfl (gw_t (tb6 (List.mem_of_getElem? (i := 86) rfl)) rfl) rfl hdg kk
theorem cw_X10_366 {R : Room} {p : Program} {s : State} {m : MethodId} {args : Array Value} {D : va_G} {Y : CYs} {rm : Room} (hC : Ctx p s m args RX10 D Y) (hrc : rm.cells = 0) (hrs : rm.slots = 0) (hR : rm.frames + 1 ≤ R.frames ∧ 8 + (8 + 11) + rm.locals ≤ R.locals) : CallW R s args RX10 RX10 366 yX10_worthOf cX10_worthOf 8 (some .long) (Cond.code yX10_worthOf cX10_worthOf 8 (some .long) :: gW) rm 0 0 2 :=
  cwV 2 hC.2.1 (gi_V (gw_t (tb7 (List.mem_of_getElem? (i := 191) rfl)) rfl) (gw_t (tb7 (List.mem_of_getElem? (i := 193) rfl)) rfl) (gw_s (q := (⟨"MarkovBenchModel", "worthOf", "(II)J"⟩, 57)) (lp7_ (List.mem_of_getElem? (i := 0) rfl))) (gw_t (tb1 (List.mem_of_getElem? (i := 10) rfl)) rfl) (gw_t (tb7 (List.mem_of_getElem? (i := 194) rfl)) rfl)) rfl hrc hrs ⟨rfl, by decide +kernel, by decide +kernel, by decide +kernel⟩ hR
theorem gf_X10_82 {p : Program} {l : Launch} {e : Env} {R : Room} {s : State} {m : MethodId} {args : Array Value} {below : List Frame} {meth : Method} {c : Code} {H : Heap} {locs : List Loc} {cells slots : Nat} {Q : State → Prop} {D : va_G} {Y : CYs} {E : Nat → Nat} {σ : Sta} {cc : ByteArray} {pc : Nat} {ls : Array Slot} {rest : List Value} {X : List Dsc} (hC : Ctx p s m args RX10 D Y) (hb : c.code = cc) (hP : va_P D vwCl (wd Y E σ 0 (LM ++ X)) H) (hdg : decode cc pc = .ok (.getfield 82, 3)) (kk : W p l e R s m args below meth c H locs cells slots Q (F0 m (pc + 3) ls (.ref (E 23) :: rest))) : W p l e R s m args below meth c H locs cells slots Q (F0 m pc ls (.ref (E 0) :: rest)) :=
  x_getR hC hb hP inGX10 (lm_0 X) rfl 40 (by decide) rfl (gw_t (tb6 (List.mem_of_getElem? (i := 84) rfl)) rfl) rfl hdg kk
theorem gf_X10_91 {p : Program} {l : Launch} {e : Env} {R : Room} {s : State} {m : MethodId} {args : Array Value} {below : List Frame} {meth : Method} {c : Code} {H : Heap} {locs : List Loc} {cells slots : Nat} {Q : State → Prop} {D : va_G} {Y : CYs} {E : Nat → Nat} {σ : Sta} {cc : ByteArray} {pc : Nat} {ls : Array Slot} {rest : List Value} {X : List Dsc} (hC : Ctx p s m args RX10 D Y) (hb : c.code = cc) (hP : va_P D vwCl (wd Y E σ 0 (LM ++ X)) H) (hdg : decode cc pc = .ok (.getfield 91, 3)) (kk : W p l e R s m args below meth c H locs cells slots Q (F0 m (pc + 3) ls (.ref (E 26) :: rest))) : W p l e R s m args below meth c H locs cells slots Q (F0 m pc ls (.ref (E 0) :: rest)) :=
  x_getR hC hb hP inGX10 (lm_0 X) rfl 43 (by decide) rfl (gw_t (tb6 (List.mem_of_getElem? (i := 87) rfl)) rfl) rfl hdg kk
theorem cw_X10_389 {R : Room} {p : Program} {s : State} {m : MethodId} {args : Array Value} {D : va_G} {Y : CYs} {rm : Room} {mc ms : Nat} (hC : Ctx p s m args RX10 D Y) (hrc : rm.cells = mc) (hrs : rm.slots = ms) (hR : rm.frames + 1 ≤ R.frames ∧ 8 + (5 + 11) + rm.locals ≤ R.locals) : CallW R s args RX10 RX10 389 yX10_find cX10_find 5 (some .int) (Cond.code yX10_find cX10_find 5 (some .int) :: gW) rm mc ms 1 :=
  cwV 1 hC.2.1 (gi_V (gw_t (tb7 (List.mem_of_getElem? (i := 187) rfl)) rfl) (gw_t (tb7 (List.mem_of_getElem? (i := 189) rfl)) rfl) (gw_s (q := (⟨"MarkovBenchModel", "find", "(I)I"⟩, 57)) (lp6_ (List.mem_of_getElem? (i := 15) rfl))) (gw_t (tb1 (List.mem_of_getElem? (i := 10) rfl)) rfl) (gw_t (tb7 (List.mem_of_getElem? (i := 190) rfl)) rfl)) rfl hrc hrs ⟨rfl, by decide +kernel, by decide +kernel, by decide +kernel⟩ hR
theorem gf_X10_85 {p : Program} {l : Launch} {e : Env} {R : Room} {s : State} {m : MethodId} {args : Array Value} {below : List Frame} {meth : Method} {c : Code} {H : Heap} {locs : List Loc} {cells slots : Nat} {Q : State → Prop} {D : va_G} {Y : CYs} {E : Nat → Nat} {σ : Sta} {cc : ByteArray} {pc : Nat} {ls : Array Slot} {rest : List Value} {X : List Dsc} (hC : Ctx p s m args RX10 D Y) (hb : c.code = cc) (hP : va_P D vwCl (wd Y E σ 0 (LM ++ X)) H) (hdg : decode cc pc = .ok (.getfield 85, 3)) (kk : W p l e R s m args below meth c H locs cells slots Q (F0 m (pc + 3) ls (.ref (E 24) :: rest))) : W p l e R s m args below meth c H locs cells slots Q (F0 m pc ls (.ref (E 0) :: rest)) :=
  x_getR hC hb hP inGX10 (lm_0 X) rfl 41 (by decide) rfl (gw_t (tb6 (List.mem_of_getElem? (i := 85) rfl)) rfl) rfl hdg kk
theorem gf_X10_78 {p : Program} {l : Launch} {e : Env} {R : Room} {s : State} {m : MethodId} {args : Array Value} {below : List Frame} {meth : Method} {c : Code} {H : Heap} {locs : List Loc} {cells slots : Nat} {Q : State → Prop} {D : va_G} {Y : CYs} {E : Nat → Nat} {σ : Sta} {cc : ByteArray} {pc : Nat} {ls : Array Slot} {rest : List Value} {X : List Dsc} (hC : Ctx p s m args RX10 D Y) (hb : c.code = cc) (hP : va_P D vwCl (wd Y E σ 0 (LM ++ X)) H) (hdg : decode cc pc = .ok (.getfield 78, 3)) (kk : W p l e R s m args below meth c H locs cells slots Q (F0 m (pc + 3) ls (.ref (E 22) :: rest))) : W p l e R s m args below meth c H locs cells slots Q (F0 m pc ls (.ref (E 0) :: rest)) :=
  x_getR hC hb hP inGX10 (lm_0 X) rfl 39 (by decide) rfl (gw_t (tb6 (List.mem_of_getElem? (i := 83) rfl)) rfl) rfl hdg kk
theorem cw_X10_392 {R : Room} {p : Program} {s : State} {m : MethodId} {args : Array Value} {D : va_G} {Y : CYs} {rm : Room} {mc ms : Nat} (hC : Ctx p s m args RX10 D Y) (hrc : rm.cells = mc) (hrs : rm.slots = ms) (hR : rm.frames + 1 ≤ R.frames ∧ 8 + (9 + 11) + rm.locals ≤ R.locals) : CallW R s args RX10 RX10 392 yX10_choose cX10_choose 9 none (Cond.code yX10_choose cX10_choose 9 none :: gW) rm mc ms 2 :=
  cwV 2 hC.2.1 (gi_V (gw_t (tb7 (List.mem_of_getElem? (i := 200) rfl)) rfl) (gw_t (tb7 (List.mem_of_getElem? (i := 202) rfl)) rfl) (gw_s (q := (⟨"MarkovBenchModel", "choose", "(II)V"⟩, 57)) (lp7_ (List.mem_of_getElem? (i := 1) rfl))) (gw_t (tb1 (List.mem_of_getElem? (i := 10) rfl)) rfl) (gw_t (tb7 (List.mem_of_getElem? (i := 203) rfl)) rfl)) rfl hrc hrs ⟨rfl, by decide +kernel, by decide +kernel, by decide +kernel⟩ hR
abbrev rm_X10_worthOf : Room := { frames := 2, cells := 0, slots := 0, locals := 51 }
def f_X10_worthOf_180 (k5 : Int32 → Int32 → Int32 → Sta → Option (Int64 × Sta)) (v2 : Int32) (v3 : Int32) (v4 : Int32) (σ : Sta) : Option (Int64 × Sta) :=
  lt (v4 + 1) (fun x1 =>
  k5 v2 v3 x1 σ)
set_option maxHeartbeats 4000000 in
set_option maxRecDepth 100000 in
theorem t_X10_worthOf_180 {l : Launch} {D : va_G} {Y : CYs} {E : Nat → Nat} {X : List Dsc} (hX : Lok (LM ++ X)) {p : Program} {e : Env} {s : State} {m : MethodId} {args : Array Value} {below : List Frame} {meth : Method} {c : Code} (hF : Fr p s m args meth c RX10 cX10_worthOf 8 (some .long) D Y E (LM ++ X)) {o : Int64 × Sta} (k5 : Int32 → Int32 → Int32 → Sta → Option (Int64 × Sta)) (hk5 : ∀ (v2 : Int32) (v3 : Int32) (v4 : Int32) (σ : Sta) (H : Heap) (locs : List Loc) (ls : Array Slot), k5 v2 v3 v4 σ = some o → va_P D vwCl (wd Y E σ 0 (LM ++ X)) H → va_S (AF E (LM ++ X).length s.heap.size) s.heap H locs → lv_has ls 8 [(0, .ref (E 0)), (2, .int v2), (3, .int v3), (4, .int v4)] → WL p l e rm_X10_worthOf s m args below meth c (LM ++ X) Y D E o H locs (F0 m 5 ls [])) : ∀ (v2 : Int32) (v3 : Int32) (v4 : Int32) (σ : Sta) (H : Heap) (locs : List Loc) (ls : Array Slot), f_X10_worthOf_180 k5 v2 v3 v4 σ = some o → va_P D vwCl (wd Y E σ 0 (LM ++ X)) H → va_S (AF E (LM ++ X).length s.heap.size) s.heap H locs → lv_has ls 8 [(0, .ref (E 0)), (2, .int v2), (3, .int v3), (4, .int v4)] → WL p l e rm_X10_worthOf s m args below meth c (LM ++ X) Y D E o H locs (F0 m 180 ls []) := by
  intro v2 v3 v4 σ H locs ls h hP hS hl
  unfold f_X10_worthOf_180 at h
  obtain ⟨hC, hb, hml, hr, hlk, hD, hSW⟩ := id hF
  have hx := hC.1
  obtain ⟨x1, ex1⟩ : ∃ y : Int32, y = v4 + 1 := ⟨_, rfl⟩
  have h := of_lt h ex1
  refine lv_iinc (v := x1) (lv' := [(4, .int x1), (0, .ref (E 0)), (2, .int v2), (3, .int v3)]) hx hb dX10_worthOf_180 hl (k := 3) rfl (by rw [ex1]; rfl) (by decide) rfl (fun ls hl => ?_)
  refine lv_goto (tgt := 5) hx hb dX10_worthOf_183 (by decide) ?_
  exact hk5 v2 v3 x1 σ _ _ _ h hP hS (lv_sub hl [1, 2, 3, 0] rfl)

def f_X10_worthOf_71 (k5 : Int32 → Int32 → Int32 → Sta → Option (Int64 × Sta)) (v2 : Int32) (v3 : Int32) (v4 : Int32) (s0 : Int64) (s1 : Int32) (σ : Sta) : Option (Int64 × Sta) :=
  if s1 < 0 ∨ 64 ≤ (s1.toNatClampNeg) then none else (
  lt (sJ σ 27 (vp_updL (gJ σ 27) (s1.toNatClampNeg) s0)) (fun σ2 =>
  lt (v3 + 1) (fun x3 =>
  f_X10_worthOf_180 k5 v2 x3 v4 σ2)))
set_option maxHeartbeats 4000000 in
set_option maxRecDepth 100000 in
theorem t_X10_worthOf_71 {l : Launch} {D : va_G} {Y : CYs} {E : Nat → Nat} {X : List Dsc} (hX : Lok (LM ++ X)) {p : Program} {e : Env} {s : State} {m : MethodId} {args : Array Value} {below : List Frame} {meth : Method} {c : Code} (hF : Fr p s m args meth c RX10 cX10_worthOf 8 (some .long) D Y E (LM ++ X)) {o : Int64 × Sta} (k5 : Int32 → Int32 → Int32 → Sta → Option (Int64 × Sta)) (hk5 : ∀ (v2 : Int32) (v3 : Int32) (v4 : Int32) (σ : Sta) (H : Heap) (locs : List Loc) (ls : Array Slot), k5 v2 v3 v4 σ = some o → va_P D vwCl (wd Y E σ 0 (LM ++ X)) H → va_S (AF E (LM ++ X).length s.heap.size) s.heap H locs → lv_has ls 8 [(0, .ref (E 0)), (2, .int v2), (3, .int v3), (4, .int v4)] → WL p l e rm_X10_worthOf s m args below meth c (LM ++ X) Y D E o H locs (F0 m 5 ls [])) : ∀ (v2 : Int32) (v3 : Int32) (v4 : Int32) (s0 : Int64) (s1 : Int32) (σ : Sta) (H : Heap) (locs : List Loc) (ls : Array Slot), f_X10_worthOf_71 k5 v2 v3 v4 s0 s1 σ = some o → va_P D vwCl (wd Y E σ 0 (LM ++ X)) H → va_S (AF E (LM ++ X).length s.heap.size) s.heap H locs → lv_has ls 8 [(0, .ref (E 0)), (2, .int v2), (3, .int v3), (4, .int v4)] → WL p l e rm_X10_worthOf s m args below meth c (LM ++ X) Y D E o H locs (F0 m 71 ls [.long s0, .int s1, .ref (E 27)]) := by
  intro v2 v3 v4 s0 s1 σ H locs ls h hP hS hl
  unfold f_X10_worthOf_71 at h
  obtain ⟨hC, hb, hml, hr, hlk, hD, hSW⟩ := id hF
  have hx := hC.1
  obtain ⟨g1, h⟩ := of_gd h
  refine x_last hX hC hb hP hD hS (lm_27 X) g1 dX10_worthOf_71 (fun H locs σ2 eσ2 hP hS => ?_)
  have h := of_lt h eσ2
  obtain ⟨x3, ex3⟩ : ∃ y : Int32, y = v3 + 1 := ⟨_, rfl⟩
  have h := of_lt h ex3
  refine lv_iinc (v := x3) (lv' := [(3, .int x3), (0, .ref (E 0)), (2, .int v2), (4, .int v4)]) hx hb dX10_worthOf_72 hl (k := 2) rfl (by rw [ex3]; rfl) (by decide) rfl (fun ls hl => ?_)
  refine lv_goto (tgt := 180) hx hb dX10_worthOf_75 (by decide) ?_
  exact t_X10_worthOf_180 hX  hF k5 hk5 v2 x3 v4 σ2 _ _ _ h hP hS (lv_sub hl [1, 2, 0, 3] rfl)

def f_X10_worthOf_146 (k5 : Int32 → Int32 → Int32 → Sta → Option (Int64 × Sta)) (v2 : Int32) (v3 : Int32) (v4 : Int32) (s0 : Int64) (s1 : Int32) (σ : Sta) : Option (Int64 × Sta) :=
  if s1 < 0 ∨ 64 ≤ (s1.toNatClampNeg) then none else (
  lt (sJ σ 27 (vp_updL (gJ σ 27) (s1.toNatClampNeg) s0)) (fun σ2 =>
  f_X10_worthOf_180 k5 v2 v3 v4 σ2))
set_option maxHeartbeats 4000000 in
set_option maxRecDepth 100000 in
theorem t_X10_worthOf_146 {l : Launch} {D : va_G} {Y : CYs} {E : Nat → Nat} {X : List Dsc} (hX : Lok (LM ++ X)) {p : Program} {e : Env} {s : State} {m : MethodId} {args : Array Value} {below : List Frame} {meth : Method} {c : Code} (hF : Fr p s m args meth c RX10 cX10_worthOf 8 (some .long) D Y E (LM ++ X)) {o : Int64 × Sta} (k5 : Int32 → Int32 → Int32 → Sta → Option (Int64 × Sta)) (hk5 : ∀ (v2 : Int32) (v3 : Int32) (v4 : Int32) (σ : Sta) (H : Heap) (locs : List Loc) (ls : Array Slot), k5 v2 v3 v4 σ = some o → va_P D vwCl (wd Y E σ 0 (LM ++ X)) H → va_S (AF E (LM ++ X).length s.heap.size) s.heap H locs → lv_has ls 8 [(0, .ref (E 0)), (2, .int v2), (3, .int v3), (4, .int v4)] → WL p l e rm_X10_worthOf s m args below meth c (LM ++ X) Y D E o H locs (F0 m 5 ls [])) : ∀ (v2 : Int32) (v3 : Int32) (v4 : Int32) (s0 : Int64) (s1 : Int32) (σ : Sta) (H : Heap) (locs : List Loc) (ls : Array Slot), f_X10_worthOf_146 k5 v2 v3 v4 s0 s1 σ = some o → va_P D vwCl (wd Y E σ 0 (LM ++ X)) H → va_S (AF E (LM ++ X).length s.heap.size) s.heap H locs → lv_has ls 8 [(0, .ref (E 0)), (2, .int v2), (3, .int v3), (4, .int v4)] → WL p l e rm_X10_worthOf s m args below meth c (LM ++ X) Y D E o H locs (F0 m 146 ls [.long s0, .int s1, .ref (E 27)]) := by
  intro v2 v3 v4 s0 s1 σ H locs ls h hP hS hl
  unfold f_X10_worthOf_146 at h
  obtain ⟨hC, hb, hml, hr, hlk, hD, hSW⟩ := id hF
  have hx := hC.1
  obtain ⟨g1, h⟩ := of_gd h
  refine x_last hX hC hb hP hD hS (lm_27 X) g1 dX10_worthOf_146 (fun H locs σ2 eσ2 hP hS => ?_)
  have h := of_lt h eσ2
  refine lv_goto (tgt := 180) hx hb dX10_worthOf_147 (by decide) ?_
  exact t_X10_worthOf_180 hX  hF k5 hk5 v2 v3 v4 σ2 _ _ _ h hP hS (lv_sub hl [0, 1, 2, 3] rfl)

def f_X10_worthOf_138 (k5 : Int32 → Int32 → Int32 → Sta → Option (Int64 × Sta)) (v2 : Int32) (v3 : Int32) (v4 : Int32) (v6 : Int64) (s0 : Int32) (σ : Sta) : Option (Int64 × Sta) :=
  f_X10_worthOf_146 k5 v2 v3 v4 (-v6) s0 σ
set_option maxHeartbeats 4000000 in
set_option maxRecDepth 100000 in
theorem t_X10_worthOf_138 {l : Launch} {D : va_G} {Y : CYs} {E : Nat → Nat} {X : List Dsc} (hX : Lok (LM ++ X)) {p : Program} {e : Env} {s : State} {m : MethodId} {args : Array Value} {below : List Frame} {meth : Method} {c : Code} (hF : Fr p s m args meth c RX10 cX10_worthOf 8 (some .long) D Y E (LM ++ X)) {o : Int64 × Sta} (k5 : Int32 → Int32 → Int32 → Sta → Option (Int64 × Sta)) (hk5 : ∀ (v2 : Int32) (v3 : Int32) (v4 : Int32) (σ : Sta) (H : Heap) (locs : List Loc) (ls : Array Slot), k5 v2 v3 v4 σ = some o → va_P D vwCl (wd Y E σ 0 (LM ++ X)) H → va_S (AF E (LM ++ X).length s.heap.size) s.heap H locs → lv_has ls 8 [(0, .ref (E 0)), (2, .int v2), (3, .int v3), (4, .int v4)] → WL p l e rm_X10_worthOf s m args below meth c (LM ++ X) Y D E o H locs (F0 m 5 ls [])) : ∀ (v2 : Int32) (v3 : Int32) (v4 : Int32) (v6 : Int64) (s0 : Int32) (σ : Sta) (H : Heap) (locs : List Loc) (ls : Array Slot), f_X10_worthOf_138 k5 v2 v3 v4 v6 s0 σ = some o → va_P D vwCl (wd Y E σ 0 (LM ++ X)) H → va_S (AF E (LM ++ X).length s.heap.size) s.heap H locs → lv_has ls 8 [(0, .ref (E 0)), (2, .int v2), (3, .int v3), (4, .int v4), (6, .long v6)] → WL p l e rm_X10_worthOf s m args below meth c (LM ++ X) Y D E o H locs (F0 m 138 ls [.int s0, .ref (E 27)]) := by
  intro v2 v3 v4 v6 s0 σ H locs ls h hP hS hl
  unfold f_X10_worthOf_138 at h
  obtain ⟨hC, hb, hml, hr, hlk, hD, hSW⟩ := id hF
  have hx := hC.1
  refine lv_lload hx hb dX10_worthOf_138 (lv_at hl 4 rfl) ?_
  refine lv_lneg hx hb dX10_worthOf_140 ?_
  refine lv_goto (tgt := 146) hx hb dX10_worthOf_141 (by decide) ?_
  exact t_X10_worthOf_146 hX  hF k5 hk5 v2 v3 v4 (-v6) s0 σ _ _ _ h hP hS (lv_sub hl [0, 1, 2, 3] rfl)

def f_X10_worthOf_5 : Nat → Int32 → Int32 → Int32 → Sta → Option (Int64 × Sta)
  | 0, _, _, _, _ => none
  | n + 1, v2, v3, v4, σ => if v4 < 0 ∨ 3004 ≤ (v4.toNatClampNeg) then none else (
    if gA σ 19 (v4.toNatClampNeg) = 50 then
      if (0 : Int32) < 0 ∨ 64 ≤ ((0 : Int32).toNatClampNeg) then none else (
      some (gJ σ 27 ((0 : Int32).toNatClampNeg), σ))
    else
      if v4 < 0 ∨ 3004 ≤ (v4.toNatClampNeg) then none else (
      lt (gA σ 19 (v4.toNatClampNeg)) (fun x5 =>
      if 1 < x5 then
        if x5 < 40 then
          lt (v3 + (-1)) (fun x8 =>
          if x8 - 1 < 0 ∨ 64 ≤ ((x8 - 1).toNatClampNeg) then none else (
          if x8 < 0 ∨ 64 ≤ (x8.toNatClampNeg) then none else (
          bnd (f_X10_two x5 (gJ σ 27 ((x8 - 1).toNatClampNeg)) (gJ σ 27 (x8.toNatClampNeg)) σ) (fun r11 σ12 =>
          if x8 - 1 < 0 ∨ 64 ≤ ((x8 - 1).toNatClampNeg) then none else (
          lt (sJ σ12 27 (vp_updL (gJ σ12 27) ((x8 - 1).toNatClampNeg) r11)) (fun σ15 =>
          f_X10_worthOf_180 (f_X10_worthOf_5 n) v2 x8 v4 σ15))))))
        else
          if v3 - 1 < 0 ∨ 64 ≤ ((v3 - 1).toNatClampNeg) then none else (
          lt (gJ σ 27 ((v3 - 1).toNatClampNeg)) (fun x17 =>
          if x5 = 40 then
            if lg_cmp x17 0 = 0 then
              f_X10_worthOf_146 (f_X10_worthOf_5 n) v2 v3 v4 1 (v3 - 1) σ
            else
              f_X10_worthOf_146 (f_X10_worthOf_5 n) v2 v3 v4 0 (v3 - 1) σ
          else
            if x5 = 41 then
              f_X10_worthOf_138 (f_X10_worthOf_5 n) v2 v3 v4 x17 (v3 - 1) σ
            else
              if 0 ≤ lg_cmp x17 0 then
                f_X10_worthOf_146 (f_X10_worthOf_5 n) v2 v3 v4 x17 (v3 - 1) σ
              else
                f_X10_worthOf_138 (f_X10_worthOf_5 n) v2 v3 v4 x17 (v3 - 1) σ))
      else
        if x5 = 0 then
          if v4 < 0 ∨ 3004 ≤ (v4.toNatClampNeg) then none else (
          f_X10_worthOf_71 (f_X10_worthOf_5 n) v2 v3 v4 (gJ σ 20 (v4.toNatClampNeg)) v3 σ)
        else
          if v4 < 0 ∨ 3004 ≤ (v4.toNatClampNeg) then none else (
          if (6 * v2) + ((gJ σ 20 (v4.toNatClampNeg)).toInt32) < 0 ∨ 600 ≤ (((6 * v2) + ((gJ σ 20 (v4.toNatClampNeg)).toInt32)).toNatClampNeg) then none else (
          f_X10_worthOf_71 (f_X10_worthOf_5 n) v2 v3 v4 ((gA σ 21 (((6 * v2) + ((gJ σ 20 (v4.toNatClampNeg)).toInt32)).toNatClampNeg)).toInt64) v3 σ)))))
set_option maxHeartbeats 4000000 in
set_option maxRecDepth 100000 in
theorem t_X10_worthOf_5 {l : Launch} {D : va_G} {Y : CYs} {E : Nat → Nat} {X : List Dsc} (hX : Lok (LM ++ X)) {p : Program} {e : Env} {s : State} {m : MethodId} {args : Array Value} {below : List Frame} {meth : Method} {c : Code} (hF : Fr p s m args meth c RX10 cX10_worthOf 8 (some .long) D Y E (LM ++ X)) {o : Int64 × Sta} : ∀ (n : Nat) (v2 : Int32) (v3 : Int32) (v4 : Int32) (σ : Sta) (H : Heap) (locs : List Loc) (ls : Array Slot), f_X10_worthOf_5 n v2 v3 v4 σ = some o → va_P D vwCl (wd Y E σ 0 (LM ++ X)) H → va_S (AF E (LM ++ X).length s.heap.size) s.heap H locs → lv_has ls 8 [(0, .ref (E 0)), (2, .int v2), (3, .int v3), (4, .int v4)] → WL p l e rm_X10_worthOf s m args below meth c (LM ++ X) Y D E o H locs (F0 m 5 ls []) := by
  intro n
  induction n with
  | zero =>
    intro v2 v3 v4 σ H locs ls h hP hS hl
    exact nomatch (show (none : Option (Int64 × Sta)) = some o from h)
  | succ n ih =>
    intro v2 v3 v4 σ H locs ls h hP hS hl
    rw [f_X10_worthOf_5] at h
    obtain ⟨hC, hb, hml, hr, hlk, hD, hSW⟩ := id hF
    have hx := hC.1
    refine lv_aload_n hx hb dX10_worthOf_5 rfl (lv_at hl 0 rfl) ?_
    refine gf_X10_65 hC hb hP dX10_worthOf_6 ?_
    refine lv_iload hx hb dX10_worthOf_9 (lv_at hl 3 rfl) ?_
    obtain ⟨g1, h⟩ := of_gd h
    refine x_iald hC hb hP (lm_19 X) g1 dX10_worthOf_11 ?_
    refine lv_bipush (v := 50) hx hb dX10_worthOf_12 (by decide) ?_
    refine lv_icmp_eq (tgt := 186) hx hb dX10_worthOf_14 (by decide) (fun c2 => ?_) (fun c2 => ?_)
    · have h := of_t h c2
      refine lv_aload_n hx hb dX10_worthOf_186 rfl (lv_at hl 0 rfl) ?_
      refine gf_X10_94 hC hb hP dX10_worthOf_187 ?_
      refine lv_iconst (v := 0) hx hb dX10_worthOf_190 (by decide) ?_
      obtain ⟨g3, h⟩ := of_gd h
      refine x_lald hC hb hP (lm_27 X) g3 dX10_worthOf_191 ?_
      exact x_lret hF hP hS h dX10_worthOf_192
    · have h := of_f h c2
      refine lv_aload_n hx hb dX10_worthOf_17 rfl (lv_at hl 0 rfl) ?_
      refine gf_X10_65 hC hb hP dX10_worthOf_18 ?_
      refine lv_iload hx hb dX10_worthOf_21 (lv_at hl 3 rfl) ?_
      obtain ⟨g4, h⟩ := of_gd h
      refine x_iald hC hb hP (lm_19 X) g4 dX10_worthOf_23 ?_
      refine lv_topi (fun x5 ex5 => ?_)
      have h := of_lt h ex5
      refine lv_istore (lv' := [(5, .int x5), (0, .ref (E 0)), (2, .int v2), (3, .int v3), (4, .int v4)]) hx hb dX10_worthOf_24 hl (by decide) rfl (fun ls hl => ?_)
      refine lv_iload hx hb dX10_worthOf_26 (lv_at hl 0 rfl) ?_
      refine lv_iconst (v := 1) hx hb dX10_worthOf_28 (by decide) ?_
      refine lv_icmp_gt (tgt := 78) hx hb dX10_worthOf_29 (by decide) (fun c6 => ?_) (fun c6 => ?_)
      · have h := of_t h c6
        refine lv_iload hx hb dX10_worthOf_78 (lv_at hl 0 rfl) ?_
        refine lv_bipush (v := 40) hx hb dX10_worthOf_80 (by decide) ?_
        refine lv_icmp_lt (tgt := 150) hx hb dX10_worthOf_82 (by decide) (fun c7 => ?_) (fun c7 => ?_)
        · have h := of_t h c7
          obtain ⟨x8, ex8⟩ : ∃ y : Int32, y = v3 + (-1) := ⟨_, rfl⟩
          have h := of_lt h ex8
          refine lv_iinc (v := x8) (lv' := [(3, .int x8), (5, .int x5), (0, .ref (E 0)), (2, .int v2), (4, .int v4)]) hx hb dX10_worthOf_150 hl (k := 3) rfl (by rw [ex8]; rfl) (by decide) rfl (fun ls hl => ?_)
          refine lv_aload_n hx hb dX10_worthOf_153 rfl (lv_at hl 2 rfl) ?_
          refine gf_X10_94 hC hb hP dX10_worthOf_154 ?_
          refine lv_iload_n hx hb dX10_worthOf_157 rfl (lv_at hl 0 rfl) ?_
          refine lv_iconst (v := 1) hx hb dX10_worthOf_158 (by decide) ?_
          refine lv_isub hx hb dX10_worthOf_159 ?_
          refine lv_iload hx hb dX10_worthOf_160 (lv_at hl 1 rfl) ?_
          refine lv_aload_n hx hb dX10_worthOf_162 rfl (lv_at hl 2 rfl) ?_
          refine gf_X10_94 hC hb hP dX10_worthOf_163 ?_
          refine lv_iload_n hx hb dX10_worthOf_166 rfl (lv_at hl 0 rfl) ?_
          refine lv_iconst (v := 1) hx hb dX10_worthOf_167 (by decide) ?_
          refine lv_isub hx hb dX10_worthOf_168 ?_
          obtain ⟨g9, h⟩ := of_gd h
          refine x_lald hC hb hP (lm_27 X) g9 dX10_worthOf_169 ?_
          refine lv_aload_n hx hb dX10_worthOf_170 rfl (lv_at hl 2 rfl) ?_
          refine gf_X10_94 hC hb hP dX10_worthOf_171 ?_
          refine lv_iload_n hx hb dX10_worthOf_174 rfl (lv_at hl 0 rfl) ?_
          obtain ⟨g10, h⟩ := of_gd h
          refine x_lald hC hb hP (lm_27 X) g10 dX10_worthOf_175 ?_
          obtain ⟨r11, σ12, g13, h⟩ := of_bnd h
          refine x_SL (As := [.int x5, .long (gJ σ 27 ((x8 - 1).toNatClampNeg)), .long (gJ σ 27 (x8.toNatClampNeg))]) (rest := [.int (x8 - 1), .ref (E 27)]) hF hl hP hS (c_X10_two hX g13) (cw_X10_370 hC rfl rfl ⟨Nat.le_of_ble_eq_true rfl, Nat.le_of_ble_eq_true rfl⟩) rfl rfl (Nat.le_of_ble_eq_true rfl) dX10_worthOf_176 ⟨Nat.zero_le _, Nat.zero_le _⟩ (fun H locs hP hS => ?_)
          obtain ⟨g14, h⟩ := of_gd h
          refine x_last hX hC hb hP hD hS (lm_27 X) g14 dX10_worthOf_179 (fun H locs σ15 eσ15 hP hS => ?_)
          have h := of_lt h eσ15
          exact t_X10_worthOf_180 hX  hF (f_X10_worthOf_5 n) ih v2 x8 v4 σ15 _ _ _ h hP hS (lv_sub hl [2, 3, 0, 4] rfl)
        · have h := of_f h c7
          refine lv_aload_n hx hb dX10_worthOf_85 rfl (lv_at hl 1 rfl) ?_
          refine gf_X10_94 hC hb hP dX10_worthOf_86 ?_
          refine lv_iload_n hx hb dX10_worthOf_89 rfl (lv_at hl 3 rfl) ?_
          refine lv_iconst (v := 1) hx hb dX10_worthOf_90 (by decide) ?_
          refine lv_isub hx hb dX10_worthOf_91 ?_
          obtain ⟨g16, h⟩ := of_gd h
          refine x_lald hC hb hP (lm_27 X) g16 dX10_worthOf_92 ?_
          refine lv_topl (fun x17 ex17 => ?_)
          have h := of_lt h ex17
          refine lv_lstore (lv' := [(6, .long x17), (5, .int x5), (0, .ref (E 0)), (2, .int v2), (3, .int v3), (4, .int v4)]) hx hb dX10_worthOf_93 hl (by decide) rfl (fun ls hl => ?_)
          refine lv_aload_n hx hb dX10_worthOf_95 rfl (lv_at hl 2 rfl) ?_
          refine gf_X10_94 hC hb hP dX10_worthOf_96 ?_
          refine lv_iload_n hx hb dX10_worthOf_99 rfl (lv_at hl 4 rfl) ?_
          refine lv_iconst (v := 1) hx hb dX10_worthOf_100 (by decide) ?_
          refine lv_isub hx hb dX10_worthOf_101 ?_
          refine lv_iload hx hb dX10_worthOf_102 (lv_at hl 1 rfl) ?_
          refine lv_bipush (v := 40) hx hb dX10_worthOf_104 (by decide) ?_
          refine lv_icmp_ne (tgt := 124) hx hb dX10_worthOf_106 (by decide) (fun c18 => ?_) (fun c18 => ?_)
          · have h := of_f h c18
            refine lv_iload hx hb dX10_worthOf_124 (lv_at hl 1 rfl) ?_
            refine lv_bipush (v := 41) hx hb dX10_worthOf_126 (by decide) ?_
            refine lv_icmp_eq (tgt := 138) hx hb dX10_worthOf_128 (by decide) (fun c19 => ?_) (fun c19 => ?_)
            · have h := of_t h c19
              exact t_X10_worthOf_138 hX  hF (f_X10_worthOf_5 n) ih v2 v3 v4 x17 (v3 - 1) σ _ _ _ h hP hS (lv_sub hl [2, 3, 4, 5, 0] rfl)
            · have h := of_f h c19
              refine lv_lload hx hb dX10_worthOf_131 (lv_at hl 0 rfl) ?_
              refine lv_lconst (v := 0) hx hb dX10_worthOf_133 (by decide) ?_
              refine W.lcmp hx hb dX10_worthOf_134 ?_
              refine lv_if_ge (tgt := 144) hx hb dX10_worthOf_135 (by decide) (fun c20 => ?_) (fun c20 => ?_)
              · have h := of_t h c20
                refine lv_lload hx hb dX10_worthOf_144 (lv_at hl 0 rfl) ?_
                exact t_X10_worthOf_146 hX  hF (f_X10_worthOf_5 n) ih v2 v3 v4 x17 (v3 - 1) σ _ _ _ h hP hS (lv_sub hl [2, 3, 4, 5] rfl)
              · have h := of_f h c20
                exact t_X10_worthOf_138 hX  hF (f_X10_worthOf_5 n) ih v2 v3 v4 x17 (v3 - 1) σ _ _ _ h hP hS (lv_sub hl [2, 3, 4, 5, 0] rfl)
          · have h := of_t h c18
            refine lv_lload hx hb dX10_worthOf_109 (lv_at hl 0 rfl) ?_
            refine lv_lconst (v := 0) hx hb dX10_worthOf_111 (by decide) ?_
            refine W.lcmp hx hb dX10_worthOf_112 ?_
            refine lv_if_ne (tgt := 120) hx hb dX10_worthOf_113 (by decide) (fun c21 => ?_) (fun c21 => ?_)
            · have h := of_f h c21
              refine lv_lconst (v := 0) hx hb dX10_worthOf_120 (by decide) ?_
              refine lv_goto (tgt := 146) hx hb dX10_worthOf_121 (by decide) ?_
              exact t_X10_worthOf_146 hX  hF (f_X10_worthOf_5 n) ih v2 v3 v4 0 (v3 - 1) σ _ _ _ h hP hS (lv_sub hl [2, 3, 4, 5] rfl)
            · have h := of_t h c21
              refine lv_lconst (v := 1) hx hb dX10_worthOf_116 (by decide) ?_
              refine lv_goto (tgt := 146) hx hb dX10_worthOf_117 (by decide) ?_
              exact t_X10_worthOf_146 hX  hF (f_X10_worthOf_5 n) ih v2 v3 v4 1 (v3 - 1) σ _ _ _ h hP hS (lv_sub hl [2, 3, 4, 5] rfl)
      · have h := of_f h c6
        refine lv_aload_n hx hb dX10_worthOf_32 rfl (lv_at hl 1 rfl) ?_
        refine gf_X10_94 hC hb hP dX10_worthOf_33 ?_
        refine lv_iload_n hx hb dX10_worthOf_36 rfl (lv_at hl 3 rfl) ?_
        refine lv_iload hx hb dX10_worthOf_37 (lv_at hl 0 rfl) ?_
        refine lv_if_ne (tgt := 52) hx hb dX10_worthOf_39 (by decide) (fun c22 => ?_) (fun c22 => ?_)
        · have h := of_f h c22
          refine lv_aload_n hx hb dX10_worthOf_52 rfl (lv_at hl 1 rfl) ?_
          refine gf_X10_75 hC hb hP dX10_worthOf_53 ?_
          refine lv_bipush (v := 6) hx hb dX10_worthOf_56 (by decide) ?_
          refine lv_iload_n hx hb dX10_worthOf_58 rfl (lv_at hl 2 rfl) ?_
          refine lv_imul hx hb dX10_worthOf_59 ?_
          refine lv_aload_n hx hb dX10_worthOf_60 rfl (lv_at hl 1 rfl) ?_
          refine gf_X10_68 hC hb hP dX10_worthOf_61 ?_
          refine lv_iload hx hb dX10_worthOf_64 (lv_at hl 4 rfl) ?_
          obtain ⟨g23, h⟩ := of_gd h
          refine x_lald hC hb hP (lm_20 X) g23 dX10_worthOf_66 ?_
          refine lv_l2i (v := (gJ σ 20 (v4.toNatClampNeg)).toInt32) hx hb dX10_worthOf_67 rfl ?_
          refine lv_iadd hx hb dX10_worthOf_68 ?_
          obtain ⟨g24, h⟩ := of_gd h
          refine x_iald hC hb hP (lm_21 X) g24 dX10_worthOf_69 ?_
          refine lv_i2l (v := (gA σ 21 (((6 * v2) + ((gJ σ 20 (v4.toNatClampNeg)).toInt32)).toNatClampNeg)).toInt64) hx hb dX10_worthOf_70 rfl ?_
          exact t_X10_worthOf_71 hX  hF (f_X10_worthOf_5 n) ih v2 v3 v4 ((gA σ 21 (((6 * v2) + ((gJ σ 20 (v4.toNatClampNeg)).toInt32)).toNatClampNeg)).toInt64) v3 σ _ _ _ h hP hS (lv_sub hl [1, 2, 3, 4] rfl)
        · have h := of_t h c22
          refine lv_aload_n hx hb dX10_worthOf_42 rfl (lv_at hl 1 rfl) ?_
          refine gf_X10_68 hC hb hP dX10_worthOf_43 ?_
          refine lv_iload hx hb dX10_worthOf_46 (lv_at hl 4 rfl) ?_
          obtain ⟨g25, h⟩ := of_gd h
          refine x_lald hC hb hP (lm_20 X) g25 dX10_worthOf_48 ?_
          refine lv_goto (tgt := 71) hx hb dX10_worthOf_49 (by decide) ?_
          exact t_X10_worthOf_71 hX  hF (f_X10_worthOf_5 n) ih v2 v3 v4 (gJ σ 20 (v4.toNatClampNeg)) v3 σ _ _ _ h hP hS (lv_sub hl [1, 2, 3, 4] rfl)

def f_X10_worthOf (a1 : Int32) (a2 : Int32) (σ : Sta) : Option (Int64 × Sta) :=
  f_X10_worthOf_5 FU a2 0 a1 σ
set_option maxHeartbeats 4000000 in
set_option maxRecDepth 100000 in
theorem c_X10_worthOf {l : Launch} {D : va_G} {Y : CYs} {E : Nat → Nat} {X : List Dsc} (hX : Lok (LM ++ X)) {a1 : Int32} {a2 : Int32} {σ : Sta} {o : Int64 × Sta} (h : f_X10_worthOf a1 a2 σ = some o) : ML l yX10_worthOf (Cond.code yX10_worthOf cX10_worthOf 8 (some .long) :: gW) rm_X10_worthOf (LM ++ X) Y D E [.ref (E 0), .int a1, .int a2] σ o := by
  intro sz
  refine Met_of (Qc := fun sz => QL (LM ++ X) Y D E sz o) (by decide) (Nat.le_of_ble_eq_true rfl) (fun p e s m args below meth c hF hP ls hl => ?_) sz
  have hS : va_S (AF E (LM ++ X).length s.heap.size) s.heap s.heap [] := va_S.rf
  have hl : lv_has ls 8 [(0, .ref (E 0)), (1, .int a1), (2, .int a2)] := hl
  show WL p l e rm_X10_worthOf s m args below meth c (LM ++ X) Y D E o s.heap [] (F0 m 0 ls [])
  unfold f_X10_worthOf at h
  obtain ⟨hC, hb, hml, hr, hlk, hD, hSW⟩ := id hF
  have hx := hC.1
  refine lv_iconst (v := 0) hx hb dX10_worthOf_0 (by decide) ?_
  refine lv_istore_n (lv' := [(3, .int 0), (0, .ref (E 0)), (1, .int a1), (2, .int a2)]) hx hb dX10_worthOf_1 rfl hl (by decide) rfl (fun ls hl => ?_)
  refine lv_iload_n hx hb dX10_worthOf_2 rfl (lv_at hl 2 rfl) ?_
  refine lv_istore (lv' := [(4, .int a1), (3, .int 0), (0, .ref (E 0)), (1, .int a1), (2, .int a2)]) hx hb dX10_worthOf_3 hl (by decide) rfl (fun ls hl => ?_)
  exact t_X10_worthOf_5 hX  hF FU a2 0 a1 σ _ _ _ h hP hS (lv_sub hl [2, 4, 1, 0] rfl)

def f_X10_find_55 (k2 : Int32 → Int32 → Sta → Option ((Int32 ⊕ (Int32 × Int32)) × Sta)) (k15 : Int32 → Int32 → Int32 → Int32 → Sta → Option ((Int32 ⊕ (Int32 × Int32)) × Sta)) (v1 : Int32) (v2 : Int32) (v4 : Int32) (s0 : Int32) (σ : Sta) : Option ((Int32 ⊕ (Int32 × Int32)) × Sta) :=
  lt (v4 + 1) (fun x1 =>
  k15 v1 v2 s0 x1 σ)
set_option maxHeartbeats 4000000 in
set_option maxRecDepth 100000 in
theorem t_X10_find_55 {l : Launch} {D : va_G} {Y : CYs} {E : Nat → Nat} {X : List Dsc} (hX : Lok (LM ++ X)) {p : Program} {e : Env} {s : State} {m : MethodId} {args : Array Value} {below : List Frame} {meth : Method} {c : Code} (hF : Fr p s m args meth c RX10 cX10_find 5 (some .int) D Y E (LM ++ X)) {o : (Int32 ⊕ (Int32 × Int32)) × Sta} (ht : l.stackTraces = false) (htab : ∀ X u, o = (.inr X, u) → ∀ x ∈ c.exceptionTable.toList, False) (k2 : Int32 → Int32 → Sta → Option ((Int32 ⊕ (Int32 × Int32)) × Sta)) (k15 : Int32 → Int32 → Int32 → Int32 → Sta → Option ((Int32 ⊕ (Int32 × Int32)) × Sta)) (hk2 : ∀ (v1 : Int32) (v2 : Int32) (σ : Sta) (H : Heap) (locs : List Loc) (ls : Array Slot), k2 v1 v2 σ = some o → va_P D vwCl (wd Y E σ 0 (LM ++ X)) H → va_S (AF E (LM ++ X).length s.heap.size) s.heap H locs → lv_has ls 5 [(0, .ref (E 0)), (1, .int v1), (2, .int v2)] → W p l e (rmw 6 102 o) s m args below meth c H locs 0 0 (QwI below args s (LM ++ X) Y D E o) (F0 m 2 ls [])) (hk15 : ∀ (v1 : Int32) (v2 : Int32) (v3 : Int32) (v4 : Int32) (σ : Sta) (H : Heap) (locs : List Loc) (ls : Array Slot), k15 v1 v2 v3 v4 σ = some o → va_P D vwCl (wd Y E σ 0 (LM ++ X)) H → va_S (AF E (LM ++ X).length s.heap.size) s.heap H locs → lv_has ls 5 [(0, .ref (E 0)), (1, .int v1), (2, .int v2), (3, .int v3), (4, .int v4)] → W p l e (rmw 6 102 o) s m args below meth c H locs 0 0 (QwI below args s (LM ++ X) Y D E o) (F0 m 15 ls [])) : ∀ (v1 : Int32) (v2 : Int32) (v4 : Int32) (s0 : Int32) (σ : Sta) (H : Heap) (locs : List Loc) (ls : Array Slot), f_X10_find_55 k2 k15 v1 v2 v4 s0 σ = some o → va_P D vwCl (wd Y E σ 0 (LM ++ X)) H → va_S (AF E (LM ++ X).length s.heap.size) s.heap H locs → lv_has ls 5 [(0, .ref (E 0)), (1, .int v1), (2, .int v2), (4, .int v4)] → W p l e (rmw 6 102 o) s m args below meth c H locs 0 0 (QwI below args s (LM ++ X) Y D E o) (F0 m 55 ls [.int s0]) := by
  intro v1 v2 v4 s0 σ H locs ls h hP hS hl
  unfold f_X10_find_55 at h
  obtain ⟨hC, hb, hml, hr, hlk, hD, hSW⟩ := id hF
  have hx := hC.1
  refine lv_istore_n (lv' := [(3, .int s0), (0, .ref (E 0)), (1, .int v1), (2, .int v2), (4, .int v4)]) hx hb dX10_find_55 rfl hl (by decide) rfl (fun ls hl => ?_)
  obtain ⟨x1, ex1⟩ : ∃ y : Int32, y = v4 + 1 := ⟨_, rfl⟩
  have h := of_lt h ex1
  refine lv_iinc (v := x1) (lv' := [(4, .int x1), (3, .int s0), (0, .ref (E 0)), (1, .int v1), (2, .int v2)]) hx hb dX10_find_56 hl (k := 4) rfl (by rw [ex1]; rfl) (by decide) rfl (fun ls hl => ?_)
  refine lv_goto (tgt := 15) hx hb dX10_find_59 (by decide) ?_
  exact hk15 v1 v2 s0 x1 σ _ _ _ h hP hS (lv_sub hl [2, 3, 4, 1, 0] rfl)

def f_X10_find_62 (k2 : Int32 → Int32 → Sta → Option ((Int32 ⊕ (Int32 × Int32)) × Sta)) (v1 : Int32) (v2 : Int32) (v3 : Int32) (σ : Sta) : Option ((Int32 ⊕ (Int32 × Int32)) × Sta) :=
  if v3 = 0 then
    lt (v2 + 1) (fun x2 =>
    k2 v1 x2 σ)
  else
    some (.inl v2, σ)
set_option maxHeartbeats 4000000 in
set_option maxRecDepth 100000 in
theorem t_X10_find_62 {l : Launch} {D : va_G} {Y : CYs} {E : Nat → Nat} {X : List Dsc} (hX : Lok (LM ++ X)) {p : Program} {e : Env} {s : State} {m : MethodId} {args : Array Value} {below : List Frame} {meth : Method} {c : Code} (hF : Fr p s m args meth c RX10 cX10_find 5 (some .int) D Y E (LM ++ X)) {o : (Int32 ⊕ (Int32 × Int32)) × Sta} (ht : l.stackTraces = false) (htab : ∀ X u, o = (.inr X, u) → ∀ x ∈ c.exceptionTable.toList, False) (k2 : Int32 → Int32 → Sta → Option ((Int32 ⊕ (Int32 × Int32)) × Sta)) (hk2 : ∀ (v1 : Int32) (v2 : Int32) (σ : Sta) (H : Heap) (locs : List Loc) (ls : Array Slot), k2 v1 v2 σ = some o → va_P D vwCl (wd Y E σ 0 (LM ++ X)) H → va_S (AF E (LM ++ X).length s.heap.size) s.heap H locs → lv_has ls 5 [(0, .ref (E 0)), (1, .int v1), (2, .int v2)] → W p l e (rmw 6 102 o) s m args below meth c H locs 0 0 (QwI below args s (LM ++ X) Y D E o) (F0 m 2 ls [])) : ∀ (v1 : Int32) (v2 : Int32) (v3 : Int32) (σ : Sta) (H : Heap) (locs : List Loc) (ls : Array Slot), f_X10_find_62 k2 v1 v2 v3 σ = some o → va_P D vwCl (wd Y E σ 0 (LM ++ X)) H → va_S (AF E (LM ++ X).length s.heap.size) s.heap H locs → lv_has ls 5 [(0, .ref (E 0)), (1, .int v1), (2, .int v2), (3, .int v3)] → W p l e (rmw 6 102 o) s m args below meth c H locs 0 0 (QwI below args s (LM ++ X) Y D E o) (F0 m 62 ls []) := by
  intro v1 v2 v3 σ H locs ls h hP hS hl
  unfold f_X10_find_62 at h
  obtain ⟨hC, hb, hml, hr, hlk, hD, hSW⟩ := id hF
  have hx := hC.1
  refine lv_iload_n hx hb dX10_find_62 rfl (lv_at hl 3 rfl) ?_
  refine lv_if_eq (tgt := 68) hx hb dX10_find_63 (by decide) (fun c1 => ?_) (fun c1 => ?_)
  · have h := of_t h c1
    obtain ⟨x2, ex2⟩ : ∃ y : Int32, y = v2 + 1 := ⟨_, rfl⟩
    have h := of_lt h ex2
    refine lv_iinc (v := x2) (lv' := [(2, .int x2), (0, .ref (E 0)), (1, .int v1), (3, .int v3)]) hx hb dX10_find_68 hl (k := 2) rfl (by rw [ex2]; rfl) (by decide) rfl (fun ls hl => ?_)
    refine lv_goto (tgt := 2) hx hb dX10_find_71 (by decide) ?_
    exact hk2 v1 x2 σ _ _ _ h hP hS (lv_sub hl [1, 2, 0] rfl)
  · have h := of_f h c1
    refine lv_iload_n hx hb dX10_find_66 rfl (lv_at hl 2 rfl) ?_
    exact x_iretW hF hP hS h dX10_find_67

def f_X10_find_15 (k2 : Int32 → Int32 → Sta → Option ((Int32 ⊕ (Int32 × Int32)) × Sta)) : Nat → Int32 → Int32 → Int32 → Int32 → Sta → Option ((Int32 ⊕ (Int32 × Int32)) × Sta)
  | 0, _, _, _, _, _ => none
  | n + 1, v1, v2, v3, v4, σ => if gI σ 10 ≤ v4 then
      f_X10_find_62 k2 v1 v2 v3 σ
    else
      if v3 = 0 then
        f_X10_find_62 k2 v1 v2 v3 σ
      else
        if (6 * v2) + v4 < 0 ∨ 600 ≤ (((6 * v2) + v4).toNatClampNeg) then none else (
        if v4 < 0 ∨ 6 ≤ (v4.toNatClampNeg) then none else (
        if gA σ 21 (((6 * v2) + v4).toNatClampNeg) = gA σ 28 (v4.toNatClampNeg) then
          f_X10_find_55 k2 (f_X10_find_15 k2 n) v1 v2 v4 1 σ
        else
          f_X10_find_55 k2 (f_X10_find_15 k2 n) v1 v2 v4 0 σ))
set_option maxHeartbeats 4000000 in
set_option maxRecDepth 100000 in
theorem t_X10_find_15 {l : Launch} {D : va_G} {Y : CYs} {E : Nat → Nat} {X : List Dsc} (hX : Lok (LM ++ X)) {p : Program} {e : Env} {s : State} {m : MethodId} {args : Array Value} {below : List Frame} {meth : Method} {c : Code} (hF : Fr p s m args meth c RX10 cX10_find 5 (some .int) D Y E (LM ++ X)) {o : (Int32 ⊕ (Int32 × Int32)) × Sta} (ht : l.stackTraces = false) (htab : ∀ X u, o = (.inr X, u) → ∀ x ∈ c.exceptionTable.toList, False) (k2 : Int32 → Int32 → Sta → Option ((Int32 ⊕ (Int32 × Int32)) × Sta)) (hk2 : ∀ (v1 : Int32) (v2 : Int32) (σ : Sta) (H : Heap) (locs : List Loc) (ls : Array Slot), k2 v1 v2 σ = some o → va_P D vwCl (wd Y E σ 0 (LM ++ X)) H → va_S (AF E (LM ++ X).length s.heap.size) s.heap H locs → lv_has ls 5 [(0, .ref (E 0)), (1, .int v1), (2, .int v2)] → W p l e (rmw 6 102 o) s m args below meth c H locs 0 0 (QwI below args s (LM ++ X) Y D E o) (F0 m 2 ls [])) : ∀ (n : Nat) (v1 : Int32) (v2 : Int32) (v3 : Int32) (v4 : Int32) (σ : Sta) (H : Heap) (locs : List Loc) (ls : Array Slot), f_X10_find_15 k2 n v1 v2 v3 v4 σ = some o → va_P D vwCl (wd Y E σ 0 (LM ++ X)) H → va_S (AF E (LM ++ X).length s.heap.size) s.heap H locs → lv_has ls 5 [(0, .ref (E 0)), (1, .int v1), (2, .int v2), (3, .int v3), (4, .int v4)] → W p l e (rmw 6 102 o) s m args below meth c H locs 0 0 (QwI below args s (LM ++ X) Y D E o) (F0 m 15 ls []) := by
  intro n
  induction n with
  | zero =>
    intro v1 v2 v3 v4 σ H locs ls h hP hS hl
    exact nomatch (show (none : Option ((Int32 ⊕ (Int32 × Int32)) × Sta)) = some o from h)
  | succ n ih =>
    intro v1 v2 v3 v4 σ H locs ls h hP hS hl
    rw [f_X10_find_15] at h
    obtain ⟨hC, hb, hml, hr, hlk, hD, hSW⟩ := id hF
    have hx := hC.1
    refine lv_iload hx hb dX10_find_15 (lv_at hl 4 rfl) ?_
    refine lv_aload_n hx hb dX10_find_17 rfl (lv_at hl 0 rfl) ?_
    refine gf_X10_198 hC hb hP dX10_find_18 ?_
    refine lv_icmp_ge (tgt := 62) hx hb dX10_find_21 (by decide) (fun c1 => ?_) (fun c1 => ?_)
    · have h := of_t h c1
      exact t_X10_find_62 hX  hF ht htab k2 hk2 v1 v2 v3 σ _ _ _ h hP hS (lv_sub hl [0, 1, 2, 3] rfl)
    · have h := of_f h c1
      refine lv_iload_n hx hb dX10_find_24 rfl (lv_at hl 3 rfl) ?_
      refine lv_if_eq (tgt := 62) hx hb dX10_find_25 (by decide) (fun c2 => ?_) (fun c2 => ?_)
      · have h := of_t h c2
        exact t_X10_find_62 hX  hF ht htab k2 hk2 v1 v2 v3 σ _ _ _ h hP hS (lv_sub hl [0, 1, 2, 3] rfl)
      · have h := of_f h c2
        refine lv_aload_n hx hb dX10_find_28 rfl (lv_at hl 0 rfl) ?_
        refine gf_X10_75 hC hb hP dX10_find_29 ?_
        refine lv_bipush (v := 6) hx hb dX10_find_32 (by decide) ?_
        refine lv_iload_n hx hb dX10_find_34 rfl (lv_at hl 2 rfl) ?_
        refine lv_imul hx hb dX10_find_35 ?_
        refine lv_iload hx hb dX10_find_36 (lv_at hl 4 rfl) ?_
        refine lv_iadd hx hb dX10_find_38 ?_
        obtain ⟨g3, h⟩ := of_gd h
        refine x_iald hC hb hP (lm_21 X) g3 dX10_find_39 ?_
        refine lv_aload_n hx hb dX10_find_40 rfl (lv_at hl 0 rfl) ?_
        refine gf_X10_97 hC hb hP dX10_find_41 ?_
        refine lv_iload hx hb dX10_find_44 (lv_at hl 4 rfl) ?_
        obtain ⟨g4, h⟩ := of_gd h
        refine x_iald hC hb hP (lm_28 X) g4 dX10_find_46 ?_
        refine lv_icmp_ne (tgt := 54) hx hb dX10_find_47 (by decide) (fun c5 => ?_) (fun c5 => ?_)
        · have h := of_f h c5
          refine lv_iconst (v := 0) hx hb dX10_find_54 (by decide) ?_
          exact t_X10_find_55 hX  hF ht htab k2 (f_X10_find_15 k2 n) hk2 ih v1 v2 v4 0 σ _ _ _ h hP hS (lv_sub hl [0, 1, 2, 4] rfl)
        · have h := of_t h c5
          refine lv_iconst (v := 1) hx hb dX10_find_50 (by decide) ?_
          refine lv_goto (tgt := 55) hx hb dX10_find_51 (by decide) ?_
          exact t_X10_find_55 hX  hF ht htab k2 (f_X10_find_15 k2 n) hk2 ih v1 v2 v4 1 σ _ _ _ h hP hS (lv_sub hl [0, 1, 2, 4] rfl)

def f_X10_find_2 : Nat → Int32 → Int32 → Sta → Option ((Int32 ⊕ (Int32 × Int32)) × Sta)
  | 0, _, _, _ => none
  | n + 1, v1, v2, σ => if gI σ 37 ≤ v2 then
      if gI σ 37 = 100 then
        some (.inr (8, v1), σ)
      else
        if (0 : Int32) < 0 ∨ 6 * (gI σ 37) < 0 ∨ (6 : Int32) < 0 ∨ 6 < ((0 : Int32).toNatClampNeg) + ((6 : Int32).toNatClampNeg) ∨ 600 < ((6 * (gI σ 37)).toNatClampNeg) + ((6 : Int32).toNatClampNeg) then none else (
        lt (sA σ 21 (va_cpy (gA σ 28) (gA σ 21) ((0 : Int32).toNatClampNeg) ((6 * (gI σ 37)).toNatClampNeg) ((6 : Int32).toNatClampNeg))) (fun σ4 =>
        lt (sI σ4 37 ((gI σ4 37) + 1)) (fun σ5 =>
        some (.inl ((gI σ5 37) - 1), σ5))))
    else
      f_X10_find_15 (f_X10_find_2 n) FU v1 v2 1 0 σ
set_option maxHeartbeats 4000000 in
set_option maxRecDepth 100000 in
theorem t_X10_find_2 {l : Launch} {D : va_G} {Y : CYs} {E : Nat → Nat} {X : List Dsc} (hX : Lok (LM ++ X)) {p : Program} {e : Env} {s : State} {m : MethodId} {args : Array Value} {below : List Frame} {meth : Method} {c : Code} (hF : Fr p s m args meth c RX10 cX10_find 5 (some .int) D Y E (LM ++ X)) {o : (Int32 ⊕ (Int32 × Int32)) × Sta} (ht : l.stackTraces = false) (htab : ∀ X u, o = (.inr X, u) → ∀ x ∈ c.exceptionTable.toList, False) : ∀ (n : Nat) (v1 : Int32) (v2 : Int32) (σ : Sta) (H : Heap) (locs : List Loc) (ls : Array Slot), f_X10_find_2 n v1 v2 σ = some o → va_P D vwCl (wd Y E σ 0 (LM ++ X)) H → va_S (AF E (LM ++ X).length s.heap.size) s.heap H locs → lv_has ls 5 [(0, .ref (E 0)), (1, .int v1), (2, .int v2)] → W p l e (rmw 6 102 o) s m args below meth c H locs 0 0 (QwI below args s (LM ++ X) Y D E o) (F0 m 2 ls []) := by
  intro n
  induction n with
  | zero =>
    intro v1 v2 σ H locs ls h hP hS hl
    exact nomatch (show (none : Option ((Int32 ⊕ (Int32 × Int32)) × Sta)) = some o from h)
  | succ n ih =>
    intro v1 v2 σ H locs ls h hP hS hl
    rw [f_X10_find_2] at h
    obtain ⟨hC, hb, hml, hr, hlk, hD, hSW⟩ := id hF
    have hx := hC.1
    refine lv_iload_n hx hb dX10_find_2 rfl (lv_at hl 2 rfl) ?_
    refine lv_aload_n hx hb dX10_find_3 rfl (lv_at hl 0 rfl) ?_
    refine gf_X10_213 hC hb hP dX10_find_4 ?_
    refine lv_icmp_ge (tgt := 74) hx hb dX10_find_7 (by decide) (fun c1 => ?_) (fun c1 => ?_)
    · have h := of_t h c1
      refine lv_aload_n hx hb dX10_find_74 rfl (lv_at hl 0 rfl) ?_
      refine gf_X10_213 hC hb hP dX10_find_75 ?_
      refine lv_bipush (v := 100) hx hb dX10_find_78 (by decide) ?_
      refine lv_icmp_ne (tgt := 94) hx hb dX10_find_80 (by decide) (fun c2 => ?_) (fun c2 => ?_)
      · have h := of_f h c2
        refine lv_aload_n hx hb dX10_find_94 rfl (lv_at hl 0 rfl) ?_
        refine gf_X10_97 hC hb hP dX10_find_95 ?_
        refine lv_iconst (v := 0) hx hb dX10_find_98 (by decide) ?_
        refine lv_aload_n hx hb dX10_find_99 rfl (lv_at hl 0 rfl) ?_
        refine gf_X10_75 hC hb hP dX10_find_100 ?_
        refine lv_bipush (v := 6) hx hb dX10_find_103 (by decide) ?_
        refine lv_aload_n hx hb dX10_find_105 rfl (lv_at hl 0 rfl) ?_
        refine gf_X10_213 hC hb hP dX10_find_106 ?_
        refine lv_imul hx hb dX10_find_109 ?_
        refine lv_bipush (v := 6) hx hb dX10_find_110 (by decide) ?_
        obtain ⟨g3, h⟩ := of_gd h
        refine x_copyI hX hF hl hP hS (gw_t (tb7 (List.mem_of_getElem? (i := 186) rfl)) rfl) (gw_t (tb3 (List.mem_of_getElem? (i := 229) rfl)) rfl) (gw_t (tb3 (List.mem_of_getElem? (i := 228) rfl)) rfl) (gw_t (tb1 (List.mem_of_getElem? (i := 23) rfl)) rfl) (lm_28 X) (lm_21 X) g3 (Nat.le_of_ble_eq_true rfl) (Nat.le_of_ble_eq_true rfl) dX10_find_112 (fun H locs σ4 eσ4 hP hS => ?_)
        have h := of_lt h eσ4
        refine lv_aload_n hx hb dX10_find_115 rfl (lv_at hl 0 rfl) ?_
        refine lv_dup hx hb dX10_find_116 rfl ?_
        refine gf_X10_213 hC hb hP dX10_find_117 ?_
        refine lv_iconst (v := 1) hx hb dX10_find_120 (by decide) ?_
        refine lv_iadd hx hb dX10_find_121 ?_
        refine pf_X10_213 hX hC hb hP hD hS dX10_find_122 (fun H locs σ5 eσ5 hP hS => ?_)
        have h := of_lt h eσ5
        refine lv_aload_n hx hb dX10_find_125 rfl (lv_at hl 0 rfl) ?_
        refine gf_X10_213 hC hb hP dX10_find_126 ?_
        refine lv_iconst (v := 1) hx hb dX10_find_129 (by decide) ?_
        refine lv_isub hx hb dX10_find_130 ?_
        exact x_iretW hF hP hS h dX10_find_131
      · have h := of_t h c2
        cases h
        refine x_newW hF hP hS dX10_find_83 (Nat.le_of_ble_eq_true rfl) (Nat.le_of_ble_eq_true rfl) (fun wa6 H hP hS hawa6 hnewa6 hBwa6 => ?_)
        refine lv_dup hx hb dX10_find_86 rfl ?_
        refine lv_bipush (v := 8) hx hb dX10_find_87 (by decide) ?_
        refine lv_iload_n hx hb dX10_find_89 rfl (lv_at hl 1 rfl) ?_
        refine x_initW (x := (8, v1)) (rest := [.ref wa6]) ht hF hl hP hS hawa6 hnewa6 hBwa6 rfl (Nat.le_of_ble_eq_true rfl) dX10_find_90 ⟨Nat.le_of_ble_eq_true rfl, Nat.le_of_ble_eq_true rfl⟩ ⟨Nat.le_of_ble_eq_true rfl, Nat.le_of_ble_eq_true rfl⟩ (fun H locs hP hS hWwa6 => ?_)
        exact x_throwW hF hP hS hWwa6 (htab _ _ rfl) dX10_find_93
    · have h := of_f h c1
      refine lv_iconst (v := 1) hx hb dX10_find_10 (by decide) ?_
      refine lv_istore_n (lv' := [(3, .int 1), (0, .ref (E 0)), (1, .int v1), (2, .int v2)]) hx hb dX10_find_11 rfl hl (by decide) rfl (fun ls hl => ?_)
      refine lv_iconst (v := 0) hx hb dX10_find_12 (by decide) ?_
      refine lv_istore (lv' := [(4, .int 0), (3, .int 1), (0, .ref (E 0)), (1, .int v1), (2, .int v2)]) hx hb dX10_find_13 hl (by decide) rfl (fun ls hl => ?_)
      exact t_X10_find_15 hX  hF ht htab (f_X10_find_2 n) ih FU v1 v2 1 0 σ _ _ _ h hP hS (lv_sub hl [2, 3, 4, 1, 0] rfl)

def f_X10_find (a1 : Int32) (σ : Sta) : Option ((Int32 ⊕ (Int32 × Int32)) × Sta) :=
  f_X10_find_2 FU a1 0 σ
set_option maxHeartbeats 4000000 in
set_option maxRecDepth 100000 in
theorem c_X10_find {l : Launch} {D : va_G} {Y : CYs} {E : Nat → Nat} {X : List Dsc} (hX : Lok (LM ++ X)) {a1 : Int32} (ht : l.stackTraces = false) {σ : Sta} {o : (Int32 ⊕ (Int32 × Int32)) × Sta} (h : f_X10_find a1 σ = some o) : MWI l yX10_find (Cond.code yX10_find cX10_find 5 (some .int) :: gW) 6 102 (LM ++ X) Y D E [.ref (E 0), .int a1] σ o := by
  refine Met_ofWI (by decide) (Nat.le_of_ble_eq_true rfl) (fun p e s m args below meth c hF hP htab ls hl => ?_)
  have hS : va_S (AF E (LM ++ X).length s.heap.size) s.heap s.heap [] := va_S.rf
  have hl : lv_has ls 5 [(0, .ref (E 0)), (1, .int a1)] := hl
  show W p l e (rmw 6 102 o) s m args below meth c s.heap [] 0 0 (QwI below args s (LM ++ X) Y D E o) (F0 m 0 ls [])
  unfold f_X10_find at h
  obtain ⟨hC, hb, hml, hr, hlk, hD, hSW⟩ := id hF
  have hx := hC.1
  refine lv_iconst (v := 0) hx hb dX10_find_0 (by decide) ?_
  refine lv_istore_n (lv' := [(2, .int 0), (0, .ref (E 0)), (1, .int a1)]) hx hb dX10_find_1 rfl hl (by decide) rfl (fun ls hl => ?_)
  exact t_X10_find_2 hX  hF ht htab FU a1 0 σ _ _ _ h hP hS (lv_sub hl [1, 2, 0] rfl)

def f_X10_choose_86 (k22 : Int32 → Int32 → Int32 → Int32 → Sta → Option ((Unit ⊕ (Int32 × Int32)) × Sta)) (v1 : Int32) (v2 : Int32) (v3 : Int32) (v4 : Int32) (s0 : Int64) (s1 : Int32) (σ : Sta) : Option ((Unit ⊕ (Int32 × Int32)) × Sta) :=
  if s1 < 0 ∨ 4800 ≤ (s1.toNatClampNeg) then none else (
  lt (sJ σ 25 (vp_updL (gJ σ 25) (s1.toNatClampNeg) s0)) (fun σ2 =>
  lt (v4 + 1) (fun x3 =>
  k22 v1 v2 v3 x3 σ2)))
set_option maxHeartbeats 4000000 in
set_option maxRecDepth 100000 in
theorem t_X10_choose_86 {l : Launch} {D : va_G} {Y : CYs} {E : Nat → Nat} {X : List Dsc} (hX : Lok (LM ++ X)) {p : Program} {e : Env} {s : State} {m : MethodId} {args : Array Value} {below : List Frame} {meth : Method} {c : Code} (hF : Fr p s m args meth c RX10 cX10_choose 9 none D Y E (LM ++ X)) {o : (Unit ⊕ (Int32 × Int32)) × Sta} (ht : l.stackTraces = false) (htab : ∀ X u, o = (.inr X, u) → ∀ x ∈ c.exceptionTable.toList, False) (k22 : Int32 → Int32 → Int32 → Int32 → Sta → Option ((Unit ⊕ (Int32 × Int32)) × Sta)) (hk22 : ∀ (v1 : Int32) (v2 : Int32) (v3 : Int32) (v4 : Int32) (σ : Sta) (H : Heap) (locs : List Loc) (ls : Array Slot), k22 v1 v2 v3 v4 σ = some o → va_P D vwCl (wd Y E σ 0 (LM ++ X)) H → va_S (AF E (LM ++ X).length s.heap.size) s.heap H locs → lv_has ls 9 [(0, .ref (E 0)), (1, .int v1), (2, .int v2), (3, .int v3), (4, .int v4)] → W p l e (rmw 7 126 o) s m args below meth c H locs 0 0 (QwV below args s (LM ++ X) Y D E o) (F0 m 22 ls [])) : ∀ (v1 : Int32) (v2 : Int32) (v3 : Int32) (v4 : Int32) (s0 : Int64) (s1 : Int32) (σ : Sta) (H : Heap) (locs : List Loc) (ls : Array Slot), f_X10_choose_86 k22 v1 v2 v3 v4 s0 s1 σ = some o → va_P D vwCl (wd Y E σ 0 (LM ++ X)) H → va_S (AF E (LM ++ X).length s.heap.size) s.heap H locs → lv_has ls 9 [(0, .ref (E 0)), (1, .int v1), (2, .int v2), (3, .int v3), (4, .int v4)] → W p l e (rmw 7 126 o) s m args below meth c H locs 0 0 (QwV below args s (LM ++ X) Y D E o) (F0 m 86 ls [.long s0, .int s1, .ref (E 25)]) := by
  intro v1 v2 v3 v4 s0 s1 σ H locs ls h hP hS hl
  unfold f_X10_choose_86 at h
  obtain ⟨hC, hb, hml, hr, hlk, hD, hSW⟩ := id hF
  have hx := hC.1
  obtain ⟨g1, h⟩ := of_gd h
  refine x_last hX hC hb hP hD hS (lm_25 X) g1 dX10_choose_86 (fun H locs σ2 eσ2 hP hS => ?_)
  have h := of_lt h eσ2
  obtain ⟨x3, ex3⟩ : ∃ y : Int32, y = v4 + 1 := ⟨_, rfl⟩
  have h := of_lt h ex3
  refine lv_iinc (v := x3) (lv' := [(4, .int x3), (0, .ref (E 0)), (1, .int v1), (2, .int v2), (3, .int v3)]) hx hb dX10_choose_87 hl (k := 4) rfl (by rw [ex3]; rfl) (by decide) rfl (fun ls hl => ?_)
  refine lv_goto (tgt := 22) hx hb dX10_choose_90 (by decide) ?_
  exact hk22 v1 v2 v3 x3 σ2 _ _ _ h hP hS (lv_sub hl [1, 2, 3, 4, 0] rfl)

def f_X10_choose_70 (k22 : Int32 → Int32 → Int32 → Int32 → Sta → Option ((Unit ⊕ (Int32 × Int32)) × Sta)) (v1 : Int32) (v2 : Int32) (v3 : Int32) (v4 : Int32) (s0 : Int32) (σ : Sta) : Option ((Unit ⊕ (Int32 × Int32)) × Sta) :=
  if v4 < 0 ∨ 3 ≤ (v4.toNatClampNeg) then none else (
  bnd (f_X10_worthOf (gA σ 11 (v4.toNatClampNeg)) v1 σ) (fun r2 σ3 =>
  f_X10_choose_86 k22 v1 v2 v3 v4 r2 s0 σ3))
set_option maxHeartbeats 4000000 in
set_option maxRecDepth 100000 in
theorem t_X10_choose_70 {l : Launch} {D : va_G} {Y : CYs} {E : Nat → Nat} {X : List Dsc} (hX : Lok (LM ++ X)) {p : Program} {e : Env} {s : State} {m : MethodId} {args : Array Value} {below : List Frame} {meth : Method} {c : Code} (hF : Fr p s m args meth c RX10 cX10_choose 9 none D Y E (LM ++ X)) {o : (Unit ⊕ (Int32 × Int32)) × Sta} (ht : l.stackTraces = false) (htab : ∀ X u, o = (.inr X, u) → ∀ x ∈ c.exceptionTable.toList, False) (k22 : Int32 → Int32 → Int32 → Int32 → Sta → Option ((Unit ⊕ (Int32 × Int32)) × Sta)) (hk22 : ∀ (v1 : Int32) (v2 : Int32) (v3 : Int32) (v4 : Int32) (σ : Sta) (H : Heap) (locs : List Loc) (ls : Array Slot), k22 v1 v2 v3 v4 σ = some o → va_P D vwCl (wd Y E σ 0 (LM ++ X)) H → va_S (AF E (LM ++ X).length s.heap.size) s.heap H locs → lv_has ls 9 [(0, .ref (E 0)), (1, .int v1), (2, .int v2), (3, .int v3), (4, .int v4)] → W p l e (rmw 7 126 o) s m args below meth c H locs 0 0 (QwV below args s (LM ++ X) Y D E o) (F0 m 22 ls [])) : ∀ (v1 : Int32) (v2 : Int32) (v3 : Int32) (v4 : Int32) (s0 : Int32) (σ : Sta) (H : Heap) (locs : List Loc) (ls : Array Slot), f_X10_choose_70 k22 v1 v2 v3 v4 s0 σ = some o → va_P D vwCl (wd Y E σ 0 (LM ++ X)) H → va_S (AF E (LM ++ X).length s.heap.size) s.heap H locs → lv_has ls 9 [(0, .ref (E 0)), (1, .int v1), (2, .int v2), (3, .int v3), (4, .int v4)] → W p l e (rmw 7 126 o) s m args below meth c H locs 0 0 (QwV below args s (LM ++ X) Y D E o) (F0 m 70 ls [.int s0, .ref (E 25)]) := by
  intro v1 v2 v3 v4 s0 σ H locs ls h hP hS hl
  unfold f_X10_choose_70 at h
  obtain ⟨hC, hb, hml, hr, hlk, hD, hSW⟩ := id hF
  have hx := hC.1
  refine lv_aload_n hx hb dX10_choose_70 rfl (lv_at hl 0 rfl) ?_
  refine lv_aload_n hx hb dX10_choose_71 rfl (lv_at hl 0 rfl) ?_
  refine gf_X10_41 hC hb hP dX10_choose_72 ?_
  refine lv_iload hx hb dX10_choose_75 (lv_at hl 4 rfl) ?_
  obtain ⟨g1, h⟩ := of_gd h
  refine x_iald hC hb hP (lm_11 X) g1 dX10_choose_77 ?_
  refine lv_iload_n hx hb dX10_choose_78 rfl (lv_at hl 1 rfl) ?_
  obtain ⟨r2, σ3, g4, h⟩ := of_bnd h
  refine x_VL (As := [.int (gA σ 11 (v4.toNatClampNeg)), .int v1]) (rest := [.int s0, .ref (E 25)]) hF hl hP hS (c_X10_worthOf hX g4) (cw_X10_366 hC rfl rfl ⟨Nat.le_of_ble_eq_true rfl, Nat.le_of_ble_eq_true rfl⟩) (lm_0 X) rfl rfl rfl (Nat.le_of_ble_eq_true rfl) dX10_choose_79 ⟨Nat.zero_le _, Nat.zero_le _⟩ (fun H locs hP hS => ?_)
  refine lv_goto (tgt := 86) hx hb dX10_choose_82 (by decide) ?_
  exact t_X10_choose_86 hX  hF ht htab k22 hk22 v1 v2 v3 v4 r2 s0 σ3 _ _ _ h hP hS (lv_sub hl [0, 1, 2, 3, 4] rfl)

def f_X10_choose_167 (k96 : Int32 → Int32 → Int32 → Int32 → Sta → Option ((Unit ⊕ (Int32 × Int32)) × Sta)) (k110 : Int32 → Int32 → Int32 → Int32 → Int32 → Sta → Option ((Unit ⊕ (Int32 × Int32)) × Sta)) (v1 : Int32) (v2 : Int32) (v3 : Int32) (v4 : Int32) (v5 : Int32) (s0 : Int64) (σ : Sta) : Option ((Unit ⊕ (Int32 × Int32)) × Sta) :=
  if v5 < 0 ∨ 6 ≤ (v5.toNatClampNeg) then none else (
  if v5 < 0 ∨ 6 ≤ (v5.toNatClampNeg) then none else (
  bnd (f_X10_isIn s0 ((gA σ 9 (v5.toNatClampNeg)).toInt64) ((gA σ 10 (v5.toNatClampNeg)).toInt64) σ) (fun r3 σ4 =>
  if r3 = 0 then
    if v2 < 0 ∨ 16 ≤ (v2.toNatClampNeg) then none else (
    some (.inr (9, gA σ4 14 (v2.toNatClampNeg)), σ4))
  else
    if v5 < 0 ∨ 6 ≤ (v5.toNatClampNeg) then none else (
    lt (sA σ4 28 (upd (gA σ4 28) (v5.toNatClampNeg) s0.toInt32)) (fun σ8 =>
    lt (v5 + 1) (fun x9 =>
    k110 v1 v2 v3 v4 x9 σ8))))))
set_option maxHeartbeats 4000000 in
set_option maxRecDepth 100000 in
theorem t_X10_choose_167 {l : Launch} {D : va_G} {Y : CYs} {E : Nat → Nat} {X : List Dsc} (hX : Lok (LM ++ X)) {p : Program} {e : Env} {s : State} {m : MethodId} {args : Array Value} {below : List Frame} {meth : Method} {c : Code} (hF : Fr p s m args meth c RX10 cX10_choose 9 none D Y E (LM ++ X)) {o : (Unit ⊕ (Int32 × Int32)) × Sta} (ht : l.stackTraces = false) (htab : ∀ X u, o = (.inr X, u) → ∀ x ∈ c.exceptionTable.toList, False) (k96 : Int32 → Int32 → Int32 → Int32 → Sta → Option ((Unit ⊕ (Int32 × Int32)) × Sta)) (k110 : Int32 → Int32 → Int32 → Int32 → Int32 → Sta → Option ((Unit ⊕ (Int32 × Int32)) × Sta)) (hk96 : ∀ (v1 : Int32) (v2 : Int32) (v3 : Int32) (v4 : Int32) (σ : Sta) (H : Heap) (locs : List Loc) (ls : Array Slot), k96 v1 v2 v3 v4 σ = some o → va_P D vwCl (wd Y E σ 0 (LM ++ X)) H → va_S (AF E (LM ++ X).length s.heap.size) s.heap H locs → lv_has ls 9 [(0, .ref (E 0)), (1, .int v1), (2, .int v2), (3, .int v3), (4, .int v4)] → W p l e (rmw 7 126 o) s m args below meth c H locs 0 0 (QwV below args s (LM ++ X) Y D E o) (F0 m 96 ls [])) (hk110 : ∀ (v1 : Int32) (v2 : Int32) (v3 : Int32) (v4 : Int32) (v5 : Int32) (σ : Sta) (H : Heap) (locs : List Loc) (ls : Array Slot), k110 v1 v2 v3 v4 v5 σ = some o → va_P D vwCl (wd Y E σ 0 (LM ++ X)) H → va_S (AF E (LM ++ X).length s.heap.size) s.heap H locs → lv_has ls 9 [(0, .ref (E 0)), (1, .int v1), (2, .int v2), (3, .int v3), (4, .int v4), (5, .int v5)] → W p l e (rmw 7 126 o) s m args below meth c H locs 0 0 (QwV below args s (LM ++ X) Y D E o) (F0 m 110 ls [])) : ∀ (v1 : Int32) (v2 : Int32) (v3 : Int32) (v4 : Int32) (v5 : Int32) (s0 : Int64) (σ : Sta) (H : Heap) (locs : List Loc) (ls : Array Slot), f_X10_choose_167 k96 k110 v1 v2 v3 v4 v5 s0 σ = some o → va_P D vwCl (wd Y E σ 0 (LM ++ X)) H → va_S (AF E (LM ++ X).length s.heap.size) s.heap H locs → lv_has ls 9 [(0, .ref (E 0)), (1, .int v1), (2, .int v2), (3, .int v3), (4, .int v4), (5, .int v5)] → W p l e (rmw 7 126 o) s m args below meth c H locs 0 0 (QwV below args s (LM ++ X) Y D E o) (F0 m 167 ls [.long s0]) := by
  intro v1 v2 v3 v4 v5 s0 σ H locs ls h hP hS hl
  unfold f_X10_choose_167 at h
  obtain ⟨hC, hb, hml, hr, hlk, hD, hSW⟩ := id hF
  have hx := hC.1
  refine lv_lstore (lv' := [(7, .long s0), (0, .ref (E 0)), (1, .int v1), (2, .int v2), (3, .int v3), (4, .int v4), (5, .int v5)]) hx hb dX10_choose_167 hl (by decide) rfl (fun ls hl => ?_)
  refine lv_lload hx hb dX10_choose_169 (lv_at hl 0 rfl) ?_
  refine lv_aload_n hx hb dX10_choose_171 rfl (lv_at hl 1 rfl) ?_
  refine gf_X10_35 hC hb hP dX10_choose_172 ?_
  refine lv_iload hx hb dX10_choose_175 (lv_at hl 6 rfl) ?_
  obtain ⟨g1, h⟩ := of_gd h
  refine x_iald hC hb hP (lm_9 X) g1 dX10_choose_177 ?_
  refine lv_i2l (v := (gA σ 9 (v5.toNatClampNeg)).toInt64) hx hb dX10_choose_178 rfl ?_
  refine lv_aload_n hx hb dX10_choose_179 rfl (lv_at hl 1 rfl) ?_
  refine gf_X10_38 hC hb hP dX10_choose_180 ?_
  refine lv_iload hx hb dX10_choose_183 (lv_at hl 6 rfl) ?_
  obtain ⟨g2, h⟩ := of_gd h
  refine x_iald hC hb hP (lm_10 X) g2 dX10_choose_185 ?_
  refine lv_i2l (v := (gA σ 10 (v5.toNatClampNeg)).toInt64) hx hb dX10_choose_186 rfl ?_
  obtain ⟨r3, σ4, g5, h⟩ := of_bnd h
  refine x_SI (As := [.long s0, .long ((gA σ 9 (v5.toNatClampNeg)).toInt64), .long ((gA σ 10 (v5.toNatClampNeg)).toInt64)]) (rest := []) hF hl hP hS (c_X10_isIn hX g5) (cw_X10_154 hC rfl rfl ⟨Nat.le_of_ble_eq_true rfl, Nat.le_of_ble_eq_true rfl⟩) rfl rfl (Nat.le_of_ble_eq_true rfl) dX10_choose_187 ⟨Nat.zero_le _, Nat.zero_le _⟩ (fun H locs hP hS => ?_)
  refine lv_if_ne (tgt := 209) hx hb dX10_choose_190 (by decide) (fun c6 => ?_) (fun c6 => ?_)
  · have h := of_f h c6
    refine lv_aload_n hx hb dX10_choose_209 rfl (lv_at hl 1 rfl) ?_
    refine gf_X10_97 hC hb hP dX10_choose_210 ?_
    refine lv_iload hx hb dX10_choose_213 (lv_at hl 6 rfl) ?_
    refine lv_lload hx hb dX10_choose_215 (lv_at hl 0 rfl) ?_
    refine lv_l2i (v := s0.toInt32) hx hb dX10_choose_217 rfl ?_
    obtain ⟨g7, h⟩ := of_gd h
    refine x_iast hX hC hb hP hD hS (lm_28 X) g7 dX10_choose_218 (fun H locs σ8 eσ8 hP hS => ?_)
    have h := of_lt h eσ8
    obtain ⟨x9, ex9⟩ : ∃ y : Int32, y = v5 + 1 := ⟨_, rfl⟩
    have h := of_lt h ex9
    refine lv_iinc (v := x9) (lv' := [(5, .int x9), (7, .long s0), (0, .ref (E 0)), (1, .int v1), (2, .int v2), (3, .int v3), (4, .int v4)]) hx hb dX10_choose_219 hl (k := 6) rfl (by rw [ex9]; rfl) (by decide) rfl (fun ls hl => ?_)
    refine lv_goto (tgt := 110) hx hb dX10_choose_222 (by decide) ?_
    exact hk110 v1 v2 v3 v4 x9 σ8 _ _ _ h hP hS (lv_sub hl [2, 3, 4, 5, 6, 0] rfl)
  · have h := of_t h c6
    obtain ⟨g11, h⟩ := of_gd h
    cases h
    refine x_newW hF hP hS dX10_choose_193 (Nat.le_of_ble_eq_true rfl) (Nat.le_of_ble_eq_true rfl) (fun wa10 H hP hS hawa10 hnewa10 hBwa10 => ?_)
    refine lv_dup hx hb dX10_choose_196 rfl ?_
    refine lv_bipush (v := 9) hx hb dX10_choose_197 (by decide) ?_
    refine lv_aload_n hx hb dX10_choose_199 rfl (lv_at hl 1 rfl) ?_
    refine gf_X10_50 hC hb hP dX10_choose_200 ?_
    refine lv_iload_n hx hb dX10_choose_203 rfl (lv_at hl 3 rfl) ?_
    refine x_iald hC hb hP (lm_14 X) g11 dX10_choose_204 ?_
    refine x_initW (x := (9, gA σ4 14 (v2.toNatClampNeg))) (rest := [.ref wa10]) ht hF hl hP hS hawa10 hnewa10 hBwa10 rfl (Nat.le_of_ble_eq_true rfl) dX10_choose_205 ⟨Nat.le_of_ble_eq_true rfl, Nat.le_of_ble_eq_true rfl⟩ ⟨Nat.le_of_ble_eq_true rfl, Nat.le_of_ble_eq_true rfl⟩ (fun H locs hP hS hWwa10 => ?_)
    exact x_throwW hF hP hS hWwa10 (htab _ _ rfl) dX10_choose_208

def f_X10_choose_110 (k96 : Int32 → Int32 → Int32 → Int32 → Sta → Option ((Unit ⊕ (Int32 × Int32)) × Sta)) : Nat → Int32 → Int32 → Int32 → Int32 → Int32 → Sta → Option ((Unit ⊕ (Int32 × Int32)) × Sta)
  | 0, _, _, _, _, _, _ => none
  | n + 1, v1, v2, v3, v4, v5, σ => if gI σ 10 ≤ v5 then
      if v2 < 0 ∨ 16 ≤ (v2.toNatClampNeg) then none else (
      bnw (f_X10_find (gA σ 14 (v2.toNatClampNeg)) σ) (fun r3 σ4 =>
      if (4 * v3) + v4 < 0 ∨ 6400 ≤ (((4 * v3) + v4).toNatClampNeg) then none else (
      lt (sA σ4 26 (upd (gA σ4 26) (((4 * v3) + v4).toNatClampNeg) r3)) (fun σ7 =>
      lt (v4 + 1) (fun x8 =>
      k96 v1 v2 v3 x8 σ7)))))
    else
      if (((v2 * 4) + v4) * 6) + v5 < 0 ∨ 384 ≤ (((((v2 * 4) + v4) * 6) + v5).toNatClampNeg) then none else (
      lt (gA σ 18 (((((v2 * 4) + v4) * 6) + v5).toNatClampNeg)) (fun x10 =>
      if x10 = -1 then
        if (6 * v1) + v5 < 0 ∨ 600 ≤ (((6 * v1) + v5).toNatClampNeg) then none else (
        f_X10_choose_167 k96 (f_X10_choose_110 k96 n) v1 v2 v3 v4 v5 ((gA σ 21 (((6 * v1) + v5).toNatClampNeg)).toInt64) σ)
      else
        bnd (f_X10_worthOf x10 v1 σ) (fun r12 σ13 =>
        f_X10_choose_167 k96 (f_X10_choose_110 k96 n) v1 v2 v3 v4 v5 r12 σ13)))
set_option maxHeartbeats 4000000 in
set_option maxRecDepth 100000 in
theorem t_X10_choose_110 {l : Launch} {D : va_G} {Y : CYs} {E : Nat → Nat} {X : List Dsc} (hX : Lok (LM ++ X)) {p : Program} {e : Env} {s : State} {m : MethodId} {args : Array Value} {below : List Frame} {meth : Method} {c : Code} (hF : Fr p s m args meth c RX10 cX10_choose 9 none D Y E (LM ++ X)) {o : (Unit ⊕ (Int32 × Int32)) × Sta} (ht : l.stackTraces = false) (htab : ∀ X u, o = (.inr X, u) → ∀ x ∈ c.exceptionTable.toList, False) (k96 : Int32 → Int32 → Int32 → Int32 → Sta → Option ((Unit ⊕ (Int32 × Int32)) × Sta)) (hk96 : ∀ (v1 : Int32) (v2 : Int32) (v3 : Int32) (v4 : Int32) (σ : Sta) (H : Heap) (locs : List Loc) (ls : Array Slot), k96 v1 v2 v3 v4 σ = some o → va_P D vwCl (wd Y E σ 0 (LM ++ X)) H → va_S (AF E (LM ++ X).length s.heap.size) s.heap H locs → lv_has ls 9 [(0, .ref (E 0)), (1, .int v1), (2, .int v2), (3, .int v3), (4, .int v4)] → W p l e (rmw 7 126 o) s m args below meth c H locs 0 0 (QwV below args s (LM ++ X) Y D E o) (F0 m 96 ls [])) : ∀ (n : Nat) (v1 : Int32) (v2 : Int32) (v3 : Int32) (v4 : Int32) (v5 : Int32) (σ : Sta) (H : Heap) (locs : List Loc) (ls : Array Slot), f_X10_choose_110 k96 n v1 v2 v3 v4 v5 σ = some o → va_P D vwCl (wd Y E σ 0 (LM ++ X)) H → va_S (AF E (LM ++ X).length s.heap.size) s.heap H locs → lv_has ls 9 [(0, .ref (E 0)), (1, .int v1), (2, .int v2), (3, .int v3), (4, .int v4), (5, .int v5)] → W p l e (rmw 7 126 o) s m args below meth c H locs 0 0 (QwV below args s (LM ++ X) Y D E o) (F0 m 110 ls []) := by
  intro n
  induction n with
  | zero =>
    intro v1 v2 v3 v4 v5 σ H locs ls h hP hS hl
    exact nomatch (show (none : Option ((Unit ⊕ (Int32 × Int32)) × Sta)) = some o from h)
  | succ n ih =>
    intro v1 v2 v3 v4 v5 σ H locs ls h hP hS hl
    rw [f_X10_choose_110] at h
    obtain ⟨hC, hb, hml, hr, hlk, hD, hSW⟩ := id hF
    have hx := hC.1
    refine lv_iload hx hb dX10_choose_110 (lv_at hl 5 rfl) ?_
    refine lv_aload_n hx hb dX10_choose_112 rfl (lv_at hl 0 rfl) ?_
    refine gf_X10_198 hC hb hP dX10_choose_113 ?_
    refine lv_icmp_ge (tgt := 225) hx hb dX10_choose_116 (by decide) (fun c1 => ?_) (fun c1 => ?_)
    · have h := of_t h c1
      refine lv_aload_n hx hb dX10_choose_225 rfl (lv_at hl 0 rfl) ?_
      refine gf_X10_91 hC hb hP dX10_choose_226 ?_
      refine lv_iconst (v := 4) hx hb dX10_choose_229 (by decide) ?_
      refine lv_iload_n hx hb dX10_choose_230 rfl (lv_at hl 3 rfl) ?_
      refine lv_imul hx hb dX10_choose_231 ?_
      refine lv_iload hx hb dX10_choose_232 (lv_at hl 4 rfl) ?_
      refine lv_iadd hx hb dX10_choose_234 ?_
      refine lv_aload_n hx hb dX10_choose_235 rfl (lv_at hl 0 rfl) ?_
      refine lv_aload_n hx hb dX10_choose_236 rfl (lv_at hl 0 rfl) ?_
      refine gf_X10_50 hC hb hP dX10_choose_237 ?_
      refine lv_iload_n hx hb dX10_choose_240 rfl (lv_at hl 2 rfl) ?_
      obtain ⟨g2, h⟩ := of_gd h
      refine x_iald hC hb hP (lm_14 X) g2 dX10_choose_241 ?_
      rcases of_bnw h with ⟨r3, σ4, g5, h⟩ | ⟨Xx, σ4, g5, rfl⟩
      rotate_left
      · exact x_VTw (As := [.int (gA σ 14 (v2.toNatClampNeg))]) (rest := [.int ((4 * v3) + v4), .ref (E 26)]) hF hl hP hS (c_X10_find hX ht g5) (cw_X10_389 hC rfl rfl ⟨Nat.le_of_ble_eq_true rfl, Nat.le_of_ble_eq_true rfl⟩) (lm_0 X) rfl rfl rfl (Nat.le_of_ble_eq_true rfl) dX10_choose_242 ⟨Nat.le_refl _, Nat.le_refl _⟩ (htab _ _ rfl)
      refine x_VI (As := [.int (gA σ 14 (v2.toNatClampNeg))]) (rest := [.int ((4 * v3) + v4), .ref (E 26)]) hF hl hP hS (c_X10_find hX ht g5) (cw_X10_389 hC rfl rfl ⟨Nat.le_of_ble_eq_true rfl, Nat.le_of_ble_eq_true rfl⟩) (lm_0 X) rfl rfl rfl (Nat.le_of_ble_eq_true rfl) dX10_choose_242 ⟨Nat.zero_le _, Nat.zero_le _⟩ (fun H locs hP hS => ?_)
      obtain ⟨g6, h⟩ := of_gd h
      refine x_iast hX hC hb hP hD hS (lm_26 X) g6 dX10_choose_245 (fun H locs σ7 eσ7 hP hS => ?_)
      have h := of_lt h eσ7
      obtain ⟨x8, ex8⟩ : ∃ y : Int32, y = v4 + 1 := ⟨_, rfl⟩
      have h := of_lt h ex8
      refine lv_iinc (v := x8) (lv' := [(4, .int x8), (0, .ref (E 0)), (1, .int v1), (2, .int v2), (3, .int v3), (5, .int v5)]) hx hb dX10_choose_246 hl (k := 4) rfl (by rw [ex8]; rfl) (by decide) rfl (fun ls hl => ?_)
      refine lv_goto (tgt := 96) hx hb dX10_choose_249 (by decide) ?_
      exact hk96 v1 v2 v3 x8 σ7 _ _ _ h hP hS (lv_sub hl [1, 2, 3, 4, 0] rfl)
    · have h := of_f h c1
      refine lv_aload_n hx hb dX10_choose_119 rfl (lv_at hl 0 rfl) ?_
      refine gf_X10_62 hC hb hP dX10_choose_120 ?_
      refine lv_iload_n hx hb dX10_choose_123 rfl (lv_at hl 2 rfl) ?_
      refine lv_iconst (v := 4) hx hb dX10_choose_124 (by decide) ?_
      refine lv_imul hx hb dX10_choose_125 ?_
      refine lv_iload hx hb dX10_choose_126 (lv_at hl 4 rfl) ?_
      refine lv_iadd hx hb dX10_choose_128 ?_
      refine lv_bipush (v := 6) hx hb dX10_choose_129 (by decide) ?_
      refine lv_imul hx hb dX10_choose_131 ?_
      refine lv_iload hx hb dX10_choose_132 (lv_at hl 5 rfl) ?_
      refine lv_iadd hx hb dX10_choose_134 ?_
      obtain ⟨g9, h⟩ := of_gd h
      refine x_iald hC hb hP (lm_18 X) g9 dX10_choose_135 ?_
      refine lv_topi (fun x10 ex10 => ?_)
      have h := of_lt h ex10
      refine lv_istore (lv' := [(6, .int x10), (0, .ref (E 0)), (1, .int v1), (2, .int v2), (3, .int v3), (4, .int v4), (5, .int v5)]) hx hb dX10_choose_136 hl (by decide) rfl (fun ls hl => ?_)
      refine lv_iload hx hb dX10_choose_138 (lv_at hl 0 rfl) ?_
      refine lv_iconst (v := -1) hx hb dX10_choose_140 (by decide) ?_
      refine lv_icmp_ne (tgt := 160) hx hb dX10_choose_141 (by decide) (fun c11 => ?_) (fun c11 => ?_)
      · have h := of_f h c11
        refine lv_aload_n hx hb dX10_choose_160 rfl (lv_at hl 1 rfl) ?_
        refine lv_iload hx hb dX10_choose_161 (lv_at hl 0 rfl) ?_
        refine lv_iload_n hx hb dX10_choose_163 rfl (lv_at hl 2 rfl) ?_
        obtain ⟨r12, σ13, g14, h⟩ := of_bnd h
        refine x_VL (As := [.int x10, .int v1]) (rest := []) hF hl hP hS (c_X10_worthOf hX g14) (cw_X10_366 hC rfl rfl ⟨Nat.le_of_ble_eq_true rfl, Nat.le_of_ble_eq_true rfl⟩) (lm_0 X) rfl rfl rfl (Nat.le_of_ble_eq_true rfl) dX10_choose_164 ⟨Nat.zero_le _, Nat.zero_le _⟩ (fun H locs hP hS => ?_)
        exact t_X10_choose_167 hX  hF ht htab k96 (f_X10_choose_110 k96 n) hk96 ih v1 v2 v3 v4 v5 r12 σ13 _ _ _ h hP hS (lv_sub hl [1, 2, 3, 4, 5, 6] rfl)
      · have h := of_t h c11
        refine lv_aload_n hx hb dX10_choose_144 rfl (lv_at hl 1 rfl) ?_
        refine gf_X10_75 hC hb hP dX10_choose_145 ?_
        refine lv_bipush (v := 6) hx hb dX10_choose_148 (by decide) ?_
        refine lv_iload_n hx hb dX10_choose_150 rfl (lv_at hl 2 rfl) ?_
        refine lv_imul hx hb dX10_choose_151 ?_
        refine lv_iload hx hb dX10_choose_152 (lv_at hl 6 rfl) ?_
        refine lv_iadd hx hb dX10_choose_154 ?_
        obtain ⟨g15, h⟩ := of_gd h
        refine x_iald hC hb hP (lm_21 X) g15 dX10_choose_155 ?_
        refine lv_i2l (v := (gA σ 21 (((6 * v1) + v5).toNatClampNeg)).toInt64) hx hb dX10_choose_156 rfl ?_
        refine lv_goto (tgt := 167) hx hb dX10_choose_157 (by decide) ?_
        exact t_X10_choose_167 hX  hF ht htab k96 (f_X10_choose_110 k96 n) hk96 ih v1 v2 v3 v4 v5 ((gA σ 21 (((6 * v1) + v5).toNatClampNeg)).toInt64) σ _ _ _ h hP hS (lv_sub hl [1, 2, 3, 4, 5, 6] rfl)

def f_X10_choose_96 : Nat → Int32 → Int32 → Int32 → Int32 → Sta → Option ((Unit ⊕ (Int32 × Int32)) × Sta)
  | 0, _, _, _, _, _ => none
  | n + 1, v1, v2, v3, v4, σ => if v2 < 0 ∨ 16 ≤ (v2.toNatClampNeg) then none else (
    if gA σ 16 (v2.toNatClampNeg) ≤ v4 then
      if v1 < 0 ∨ 100 ≤ (v1.toNatClampNeg) then none else (
      if v1 < 0 ∨ 100 ≤ (v1.toNatClampNeg) then none else (
      lt (sA σ 23 (upd (gA σ 23) (v1.toNatClampNeg) ((gA σ 23 (v1.toNatClampNeg)) + 1))) (fun σ5 =>
      some (.inl (), σ5))))
    else
      f_X10_choose_110 (f_X10_choose_96 n) FU v1 v2 v3 v4 0 σ)
set_option maxHeartbeats 4000000 in
set_option maxRecDepth 100000 in
theorem t_X10_choose_96 {l : Launch} {D : va_G} {Y : CYs} {E : Nat → Nat} {X : List Dsc} (hX : Lok (LM ++ X)) {p : Program} {e : Env} {s : State} {m : MethodId} {args : Array Value} {below : List Frame} {meth : Method} {c : Code} (hF : Fr p s m args meth c RX10 cX10_choose 9 none D Y E (LM ++ X)) {o : (Unit ⊕ (Int32 × Int32)) × Sta} (ht : l.stackTraces = false) (htab : ∀ X u, o = (.inr X, u) → ∀ x ∈ c.exceptionTable.toList, False) : ∀ (n : Nat) (v1 : Int32) (v2 : Int32) (v3 : Int32) (v4 : Int32) (σ : Sta) (H : Heap) (locs : List Loc) (ls : Array Slot), f_X10_choose_96 n v1 v2 v3 v4 σ = some o → va_P D vwCl (wd Y E σ 0 (LM ++ X)) H → va_S (AF E (LM ++ X).length s.heap.size) s.heap H locs → lv_has ls 9 [(0, .ref (E 0)), (1, .int v1), (2, .int v2), (3, .int v3), (4, .int v4)] → W p l e (rmw 7 126 o) s m args below meth c H locs 0 0 (QwV below args s (LM ++ X) Y D E o) (F0 m 96 ls []) := by
  intro n
  induction n with
  | zero =>
    intro v1 v2 v3 v4 σ H locs ls h hP hS hl
    exact nomatch (show (none : Option ((Unit ⊕ (Int32 × Int32)) × Sta)) = some o from h)
  | succ n ih =>
    intro v1 v2 v3 v4 σ H locs ls h hP hS hl
    rw [f_X10_choose_96] at h
    obtain ⟨hC, hb, hml, hr, hlk, hD, hSW⟩ := id hF
    have hx := hC.1
    refine lv_iload hx hb dX10_choose_96 (lv_at hl 4 rfl) ?_
    refine lv_aload_n hx hb dX10_choose_98 rfl (lv_at hl 0 rfl) ?_
    refine gf_X10_56 hC hb hP dX10_choose_99 ?_
    refine lv_iload_n hx hb dX10_choose_102 rfl (lv_at hl 2 rfl) ?_
    obtain ⟨g1, h⟩ := of_gd h
    refine x_iald hC hb hP (lm_16 X) g1 dX10_choose_103 ?_
    refine lv_icmp_ge (tgt := 252) hx hb dX10_choose_104 (by decide) (fun c2 => ?_) (fun c2 => ?_)
    · have h := of_t h c2
      refine lv_aload_n hx hb dX10_choose_252 rfl (lv_at hl 0 rfl) ?_
      refine gf_X10_82 hC hb hP dX10_choose_253 ?_
      refine lv_iload_n hx hb dX10_choose_256 rfl (lv_at hl 1 rfl) ?_
      refine lv_dup2_11 hx hb dX10_choose_257 rfl rfl ?_
      obtain ⟨g3, h⟩ := of_gd h
      refine x_iald hC hb hP (lm_23 X) g3 dX10_choose_258 ?_
      refine lv_iconst (v := 1) hx hb dX10_choose_259 (by decide) ?_
      refine lv_iadd hx hb dX10_choose_260 ?_
      obtain ⟨g4, h⟩ := of_gd h
      refine x_iast hX hC hb hP hD hS (lm_23 X) g4 dX10_choose_261 (fun H locs σ5 eσ5 hP hS => ?_)
      have h := of_lt h eσ5
      exact x_vretW hF hP hS h dX10_choose_262
    · have h := of_f h c2
      refine lv_iconst (v := 0) hx hb dX10_choose_107 (by decide) ?_
      refine lv_istore (lv' := [(5, .int 0), (0, .ref (E 0)), (1, .int v1), (2, .int v2), (3, .int v3), (4, .int v4)]) hx hb dX10_choose_108 hl (by decide) rfl (fun ls hl => ?_)
      exact t_X10_choose_110 hX  hF ht htab (f_X10_choose_96 n) ih FU v1 v2 v3 v4 0 σ _ _ _ h hP hS (lv_sub hl [1, 2, 3, 4, 5, 0] rfl)

def f_X10_choose_22 : Nat → Int32 → Int32 → Int32 → Int32 → Sta → Option ((Unit ⊕ (Int32 × Int32)) × Sta)
  | 0, _, _, _, _, _ => none
  | n + 1, v1, v2, v3, v4, σ => if gI σ 15 ≤ v4 then
      f_X10_choose_96 FU v1 v2 v3 0 σ
    else
      if v4 < 0 ∨ 3 ≤ (v4.toNatClampNeg) then none else (
      if lg_cmp (gJ σ 12 (v4.toNatClampNeg)) 0 = 0 then
        f_X10_choose_70 (f_X10_choose_22 n) v1 v2 v3 v4 ((3 * v3) + v4) σ
      else
        if v4 < 0 ∨ 3 ≤ (v4.toNatClampNeg) then none else (
        if v2 < 0 ∨ 16 ≤ (v2.toNatClampNeg) then none else (
        if lg_cmp (gJ σ 12 (v4.toNatClampNeg)) (gJ σ 13 (v2.toNatClampNeg)) = 0 then
          f_X10_choose_70 (f_X10_choose_22 n) v1 v2 v3 v4 ((3 * v3) + v4) σ
        else
          f_X10_choose_86 (f_X10_choose_22 n) v1 v2 v3 v4 0 ((3 * v3) + v4) σ)))
set_option maxHeartbeats 4000000 in
set_option maxRecDepth 100000 in
theorem t_X10_choose_22 {l : Launch} {D : va_G} {Y : CYs} {E : Nat → Nat} {X : List Dsc} (hX : Lok (LM ++ X)) {p : Program} {e : Env} {s : State} {m : MethodId} {args : Array Value} {below : List Frame} {meth : Method} {c : Code} (hF : Fr p s m args meth c RX10 cX10_choose 9 none D Y E (LM ++ X)) {o : (Unit ⊕ (Int32 × Int32)) × Sta} (ht : l.stackTraces = false) (htab : ∀ X u, o = (.inr X, u) → ∀ x ∈ c.exceptionTable.toList, False) : ∀ (n : Nat) (v1 : Int32) (v2 : Int32) (v3 : Int32) (v4 : Int32) (σ : Sta) (H : Heap) (locs : List Loc) (ls : Array Slot), f_X10_choose_22 n v1 v2 v3 v4 σ = some o → va_P D vwCl (wd Y E σ 0 (LM ++ X)) H → va_S (AF E (LM ++ X).length s.heap.size) s.heap H locs → lv_has ls 9 [(0, .ref (E 0)), (1, .int v1), (2, .int v2), (3, .int v3), (4, .int v4)] → W p l e (rmw 7 126 o) s m args below meth c H locs 0 0 (QwV below args s (LM ++ X) Y D E o) (F0 m 22 ls []) := by
  intro n
  induction n with
  | zero =>
    intro v1 v2 v3 v4 σ H locs ls h hP hS hl
    exact nomatch (show (none : Option ((Unit ⊕ (Int32 × Int32)) × Sta)) = some o from h)
  | succ n ih =>
    intro v1 v2 v3 v4 σ H locs ls h hP hS hl
    rw [f_X10_choose_22] at h
    obtain ⟨hC, hb, hml, hr, hlk, hD, hSW⟩ := id hF
    have hx := hC.1
    refine lv_iload hx hb dX10_choose_22 (lv_at hl 4 rfl) ?_
    refine lv_aload_n hx hb dX10_choose_24 rfl (lv_at hl 0 rfl) ?_
    refine gf_X10_201 hC hb hP dX10_choose_25 ?_
    refine lv_icmp_ge (tgt := 93) hx hb dX10_choose_28 (by decide) (fun c1 => ?_) (fun c1 => ?_)
    · have h := of_t h c1
      refine lv_iconst (v := 0) hx hb dX10_choose_93 (by decide) ?_
      refine lv_istore (lv' := [(4, .int 0), (0, .ref (E 0)), (1, .int v1), (2, .int v2), (3, .int v3)]) hx hb dX10_choose_94 hl (by decide) rfl (fun ls hl => ?_)
      exact t_X10_choose_96 hX  hF ht htab FU v1 v2 v3 0 σ _ _ _ h hP hS (lv_sub hl [1, 2, 3, 4, 0] rfl)
    · have h := of_f h c1
      refine lv_aload_n hx hb dX10_choose_31 rfl (lv_at hl 0 rfl) ?_
      refine gf_X10_88 hC hb hP dX10_choose_32 ?_
      refine lv_iconst (v := 3) hx hb dX10_choose_35 (by decide) ?_
      refine lv_iload_n hx hb dX10_choose_36 rfl (lv_at hl 3 rfl) ?_
      refine lv_imul hx hb dX10_choose_37 ?_
      refine lv_iload hx hb dX10_choose_38 (lv_at hl 4 rfl) ?_
      refine lv_iadd hx hb dX10_choose_40 ?_
      refine lv_aload_n hx hb dX10_choose_41 rfl (lv_at hl 0 rfl) ?_
      refine gf_X10_44 hC hb hP dX10_choose_42 ?_
      refine lv_iload hx hb dX10_choose_45 (lv_at hl 4 rfl) ?_
      obtain ⟨g2, h⟩ := of_gd h
      refine x_lald hC hb hP (lm_12 X) g2 dX10_choose_47 ?_
      refine lv_lconst (v := 0) hx hb dX10_choose_48 (by decide) ?_
      refine W.lcmp hx hb dX10_choose_49 ?_
      refine lv_if_eq (tgt := 70) hx hb dX10_choose_50 (by decide) (fun c3 => ?_) (fun c3 => ?_)
      · have h := of_t h c3
        exact t_X10_choose_70 hX  hF ht htab (f_X10_choose_22 n) ih v1 v2 v3 v4 ((3 * v3) + v4) σ _ _ _ h hP hS (lv_sub hl [0, 1, 2, 3, 4] rfl)
      · have h := of_f h c3
        refine lv_aload_n hx hb dX10_choose_53 rfl (lv_at hl 0 rfl) ?_
        refine gf_X10_44 hC hb hP dX10_choose_54 ?_
        refine lv_iload hx hb dX10_choose_57 (lv_at hl 4 rfl) ?_
        obtain ⟨g4, h⟩ := of_gd h
        refine x_lald hC hb hP (lm_12 X) g4 dX10_choose_59 ?_
        refine lv_aload_n hx hb dX10_choose_60 rfl (lv_at hl 0 rfl) ?_
        refine gf_X10_47 hC hb hP dX10_choose_61 ?_
        refine lv_iload_n hx hb dX10_choose_64 rfl (lv_at hl 2 rfl) ?_
        obtain ⟨g5, h⟩ := of_gd h
        refine x_lald hC hb hP (lm_13 X) g5 dX10_choose_65 ?_
        refine W.lcmp hx hb dX10_choose_66 ?_
        refine lv_if_ne (tgt := 85) hx hb dX10_choose_67 (by decide) (fun c6 => ?_) (fun c6 => ?_)
        · have h := of_f h c6
          refine lv_lconst (v := 0) hx hb dX10_choose_85 (by decide) ?_
          exact t_X10_choose_86 hX  hF ht htab (f_X10_choose_22 n) ih v1 v2 v3 v4 0 ((3 * v3) + v4) σ _ _ _ h hP hS (lv_sub hl [0, 1, 2, 3, 4] rfl)
        · have h := of_t h c6
          exact t_X10_choose_70 hX  hF ht htab (f_X10_choose_22 n) ih v1 v2 v3 v4 ((3 * v3) + v4) σ _ _ _ h hP hS (lv_sub hl [0, 1, 2, 3, 4] rfl)

def f_X10_choose (a1 : Int32) (a2 : Int32) (σ : Sta) : Option ((Unit ⊕ (Int32 × Int32)) × Sta) :=
  if a1 < 0 ∨ 100 ≤ (a1.toNatClampNeg) then none else (
  lt ((16 * a1) + (gA σ 23 (a1.toNatClampNeg))) (fun x2 =>
  if x2 < 0 ∨ 1600 ≤ (x2.toNatClampNeg) then none else (
  lt (sA σ 24 (upd (gA σ 24) (x2.toNatClampNeg) a2)) (fun σ4 =>
  f_X10_choose_22 FU a1 a2 x2 0 σ4))))
set_option maxHeartbeats 4000000 in
set_option maxRecDepth 100000 in
theorem c_X10_choose {l : Launch} {D : va_G} {Y : CYs} {E : Nat → Nat} {X : List Dsc} (hX : Lok (LM ++ X)) {a1 : Int32} {a2 : Int32} (ht : l.stackTraces = false) {σ : Sta} {o : (Unit ⊕ (Int32 × Int32)) × Sta} (h : f_X10_choose a1 a2 σ = some o) : MWV l yX10_choose (Cond.code yX10_choose cX10_choose 9 none :: gW) 7 126 (LM ++ X) Y D E [.ref (E 0), .int a1, .int a2] σ o := by
  refine Met_ofWV (by decide) (Nat.le_of_ble_eq_true rfl) (fun p e s m args below meth c hF hP htab ls hl => ?_)
  have hS : va_S (AF E (LM ++ X).length s.heap.size) s.heap s.heap [] := va_S.rf
  have hl : lv_has ls 9 [(0, .ref (E 0)), (1, .int a1), (2, .int a2)] := hl
  show W p l e (rmw 7 126 o) s m args below meth c s.heap [] 0 0 (QwV below args s (LM ++ X) Y D E o) (F0 m 0 ls [])
  unfold f_X10_choose at h
  obtain ⟨hC, hb, hml, hr, hlk, hD, hSW⟩ := id hF
  have hx := hC.1
  refine lv_bipush (v := 16) hx hb dX10_choose_0 (by decide) ?_
  refine lv_iload_n hx hb dX10_choose_2 rfl (lv_at hl 1 rfl) ?_
  refine lv_imul hx hb dX10_choose_3 ?_
  refine lv_aload_n hx hb dX10_choose_4 rfl (lv_at hl 0 rfl) ?_
  refine gf_X10_82 hC hb hP dX10_choose_5 ?_
  refine lv_iload_n hx hb dX10_choose_8 rfl (lv_at hl 1 rfl) ?_
  obtain ⟨g1, h⟩ := of_gd h
  refine x_iald hC hb hP (lm_23 X) g1 dX10_choose_9 ?_
  refine lv_iadd hx hb dX10_choose_10 ?_
  refine lv_topi (fun x2 ex2 => ?_)
  have h := of_lt h ex2
  refine lv_istore_n (lv' := [(3, .int x2), (0, .ref (E 0)), (1, .int a1), (2, .int a2)]) hx hb dX10_choose_11 rfl hl (by decide) rfl (fun ls hl => ?_)
  refine lv_aload_n hx hb dX10_choose_12 rfl (lv_at hl 1 rfl) ?_
  refine gf_X10_85 hC hb hP dX10_choose_13 ?_
  refine lv_iload_n hx hb dX10_choose_16 rfl (lv_at hl 0 rfl) ?_
  refine lv_iload_n hx hb dX10_choose_17 rfl (lv_at hl 3 rfl) ?_
  obtain ⟨g3, h⟩ := of_gd h
  refine x_iast hX hC hb hP hD hS (lm_24 X) g3 dX10_choose_18 (fun H locs σ4 eσ4 hP hS => ?_)
  have h := of_lt h eσ4
  refine lv_iconst (v := 0) hx hb dX10_choose_19 (by decide) ?_
  refine lv_istore (lv' := [(4, .int 0), (3, .int x2), (0, .ref (E 0)), (1, .int a1), (2, .int a2)]) hx hb dX10_choose_20 hl (by decide) rfl (fun ls hl => ?_)
  exact t_X10_choose_22 hX  hF ht htab FU a1 a2 x2 0 σ4 _ _ _ h hP hS (lv_sub hl [2, 3, 4, 1, 0] rfl)

def f_X10_explore_112 (k23 : Int32 → Sta → Option ((Unit ⊕ (Int32 × Int32)) × Sta)) (k73 : Int32 → Int32 → Sta → Option ((Unit ⊕ (Int32 × Int32)) × Sta)) (v1 : Int32) (v2 : Int32) (σ : Sta) : Option ((Unit ⊕ (Int32 × Int32)) × Sta) :=
  lt (v2 + 1) (fun x1 =>
  k73 v1 x1 σ)
set_option maxHeartbeats 4000000 in
set_option maxRecDepth 100000 in
theorem t_X10_explore_112 {l : Launch} {D : va_G} {Y : CYs} {E : Nat → Nat} {X : List Dsc} (hX : Lok (LM ++ X)) {p : Program} {e : Env} {s : State} {m : MethodId} {args : Array Value} {below : List Frame} {meth : Method} {c : Code} (hF : Fr p s m args meth c RX10 cX10_explore 3 none D Y E (LM ++ X)) {o : (Unit ⊕ (Int32 × Int32)) × Sta} (ht : l.stackTraces = false) (htab : ∀ X u, o = (.inr X, u) → ∀ x ∈ c.exceptionTable.toList, False) (k23 : Int32 → Sta → Option ((Unit ⊕ (Int32 × Int32)) × Sta)) (k73 : Int32 → Int32 → Sta → Option ((Unit ⊕ (Int32 × Int32)) × Sta)) (hk23 : ∀ (v1 : Int32) (σ : Sta) (H : Heap) (locs : List Loc) (ls : Array Slot), k23 v1 σ = some o → va_P D vwCl (wd Y E σ 0 (LM ++ X)) H → va_S (AF E (LM ++ X).length s.heap.size) s.heap H locs → lv_has ls 3 [(0, .ref (E 0)), (1, .int v1)] → W p l e (rmw 8 154 o) s m args below meth c H locs 0 0 (QwV below args s (LM ++ X) Y D E o) (F0 m 23 ls [])) (hk73 : ∀ (v1 : Int32) (v2 : Int32) (σ : Sta) (H : Heap) (locs : List Loc) (ls : Array Slot), k73 v1 v2 σ = some o → va_P D vwCl (wd Y E σ 0 (LM ++ X)) H → va_S (AF E (LM ++ X).length s.heap.size) s.heap H locs → lv_has ls 3 [(0, .ref (E 0)), (1, .int v1), (2, .int v2)] → W p l e (rmw 8 154 o) s m args below meth c H locs 0 0 (QwV below args s (LM ++ X) Y D E o) (F0 m 73 ls [])) : ∀ (v1 : Int32) (v2 : Int32) (σ : Sta) (H : Heap) (locs : List Loc) (ls : Array Slot), f_X10_explore_112 k23 k73 v1 v2 σ = some o → va_P D vwCl (wd Y E σ 0 (LM ++ X)) H → va_S (AF E (LM ++ X).length s.heap.size) s.heap H locs → lv_has ls 3 [(0, .ref (E 0)), (1, .int v1), (2, .int v2)] → W p l e (rmw 8 154 o) s m args below meth c H locs 0 0 (QwV below args s (LM ++ X) Y D E o) (F0 m 112 ls []) := by
  intro v1 v2 σ H locs ls h hP hS hl
  unfold f_X10_explore_112 at h
  obtain ⟨hC, hb, hml, hr, hlk, hD, hSW⟩ := id hF
  have hx := hC.1
  obtain ⟨x1, ex1⟩ : ∃ y : Int32, y = v2 + 1 := ⟨_, rfl⟩
  have h := of_lt h ex1
  refine lv_iinc (v := x1) (lv' := [(2, .int x1), (0, .ref (E 0)), (1, .int v1)]) hx hb dX10_explore_112 hl (k := 2) rfl (by rw [ex1]; rfl) (by decide) rfl (fun ls hl => ?_)
  refine lv_goto (tgt := 73) hx hb dX10_explore_115 (by decide) ?_
  exact hk73 v1 x1 σ _ _ _ h hP hS (lv_sub hl [1, 2, 0] rfl)

def f_X10_explore_118 (k23 : Int32 → Sta → Option ((Unit ⊕ (Int32 × Int32)) × Sta)) (v1 : Int32) (σ : Sta) : Option ((Unit ⊕ (Int32 × Int32)) × Sta) :=
  lt (v1 + 1) (fun x1 =>
  k23 x1 σ)
set_option maxHeartbeats 4000000 in
set_option maxRecDepth 100000 in
theorem t_X10_explore_118 {l : Launch} {D : va_G} {Y : CYs} {E : Nat → Nat} {X : List Dsc} (hX : Lok (LM ++ X)) {p : Program} {e : Env} {s : State} {m : MethodId} {args : Array Value} {below : List Frame} {meth : Method} {c : Code} (hF : Fr p s m args meth c RX10 cX10_explore 3 none D Y E (LM ++ X)) {o : (Unit ⊕ (Int32 × Int32)) × Sta} (ht : l.stackTraces = false) (htab : ∀ X u, o = (.inr X, u) → ∀ x ∈ c.exceptionTable.toList, False) (k23 : Int32 → Sta → Option ((Unit ⊕ (Int32 × Int32)) × Sta)) (hk23 : ∀ (v1 : Int32) (σ : Sta) (H : Heap) (locs : List Loc) (ls : Array Slot), k23 v1 σ = some o → va_P D vwCl (wd Y E σ 0 (LM ++ X)) H → va_S (AF E (LM ++ X).length s.heap.size) s.heap H locs → lv_has ls 3 [(0, .ref (E 0)), (1, .int v1)] → W p l e (rmw 8 154 o) s m args below meth c H locs 0 0 (QwV below args s (LM ++ X) Y D E o) (F0 m 23 ls [])) : ∀ (v1 : Int32) (σ : Sta) (H : Heap) (locs : List Loc) (ls : Array Slot), f_X10_explore_118 k23 v1 σ = some o → va_P D vwCl (wd Y E σ 0 (LM ++ X)) H → va_S (AF E (LM ++ X).length s.heap.size) s.heap H locs → lv_has ls 3 [(0, .ref (E 0)), (1, .int v1)] → W p l e (rmw 8 154 o) s m args below meth c H locs 0 0 (QwV below args s (LM ++ X) Y D E o) (F0 m 118 ls []) := by
  intro v1 σ H locs ls h hP hS hl
  unfold f_X10_explore_118 at h
  obtain ⟨hC, hb, hml, hr, hlk, hD, hSW⟩ := id hF
  have hx := hC.1
  obtain ⟨x1, ex1⟩ : ∃ y : Int32, y = v1 + 1 := ⟨_, rfl⟩
  have h := of_lt h ex1
  refine lv_iinc (v := x1) (lv' := [(1, .int x1), (0, .ref (E 0))]) hx hb dX10_explore_118 hl (k := 1) rfl (by rw [ex1]; rfl) (by decide) rfl (fun ls hl => ?_)
  refine lv_goto (tgt := 23) hx hb dX10_explore_121 (by decide) ?_
  exact hk23 x1 σ _ _ _ h hP hS (lv_sub hl [1, 0] rfl)

def f_X10_explore_73 (k23 : Int32 → Sta → Option ((Unit ⊕ (Int32 × Int32)) × Sta)) : Nat → Int32 → Int32 → Sta → Option ((Unit ⊕ (Int32 × Int32)) × Sta)
  | 0, _, _, _ => none
  | n + 1, v1, v2, σ => if gI σ 19 ≤ v2 then
      f_X10_explore_118 k23 v1 σ
    else
      if v1 < 0 ∨ 100 ≤ (v1.toNatClampNeg) then none else (
      if gA σ 22 (v1.toNatClampNeg) = 0 then
        if v2 < 0 ∨ 16 ≤ (v2.toNatClampNeg) then none else (
        bnd (f_X10_worthOf (gA σ 15 (v2.toNatClampNeg)) v1 σ) (fun r5 σ6 =>
        if lg_cmp r5 0 = 0 then
          f_X10_explore_112 k23 (f_X10_explore_73 k23 n) v1 v2 σ6
        else
          bnw (f_X10_choose v1 v2 σ6) (fun _ σ10 =>
          f_X10_explore_112 k23 (f_X10_explore_73 k23 n) v1 v2 σ10)))
      else
        f_X10_explore_118 k23 v1 σ)
set_option maxHeartbeats 4000000 in
set_option maxRecDepth 100000 in
theorem t_X10_explore_73 {l : Launch} {D : va_G} {Y : CYs} {E : Nat → Nat} {X : List Dsc} (hX : Lok (LM ++ X)) {p : Program} {e : Env} {s : State} {m : MethodId} {args : Array Value} {below : List Frame} {meth : Method} {c : Code} (hF : Fr p s m args meth c RX10 cX10_explore 3 none D Y E (LM ++ X)) {o : (Unit ⊕ (Int32 × Int32)) × Sta} (ht : l.stackTraces = false) (htab : ∀ X u, o = (.inr X, u) → ∀ x ∈ c.exceptionTable.toList, False) (k23 : Int32 → Sta → Option ((Unit ⊕ (Int32 × Int32)) × Sta)) (hk23 : ∀ (v1 : Int32) (σ : Sta) (H : Heap) (locs : List Loc) (ls : Array Slot), k23 v1 σ = some o → va_P D vwCl (wd Y E σ 0 (LM ++ X)) H → va_S (AF E (LM ++ X).length s.heap.size) s.heap H locs → lv_has ls 3 [(0, .ref (E 0)), (1, .int v1)] → W p l e (rmw 8 154 o) s m args below meth c H locs 0 0 (QwV below args s (LM ++ X) Y D E o) (F0 m 23 ls [])) : ∀ (n : Nat) (v1 : Int32) (v2 : Int32) (σ : Sta) (H : Heap) (locs : List Loc) (ls : Array Slot), f_X10_explore_73 k23 n v1 v2 σ = some o → va_P D vwCl (wd Y E σ 0 (LM ++ X)) H → va_S (AF E (LM ++ X).length s.heap.size) s.heap H locs → lv_has ls 3 [(0, .ref (E 0)), (1, .int v1), (2, .int v2)] → W p l e (rmw 8 154 o) s m args below meth c H locs 0 0 (QwV below args s (LM ++ X) Y D E o) (F0 m 73 ls []) := by
  intro n
  induction n with
  | zero =>
    intro v1 v2 σ H locs ls h hP hS hl
    exact nomatch (show (none : Option ((Unit ⊕ (Int32 × Int32)) × Sta)) = some o from h)
  | succ n ih =>
    intro v1 v2 σ H locs ls h hP hS hl
    rw [f_X10_explore_73] at h
    obtain ⟨hC, hb, hml, hr, hlk, hD, hSW⟩ := id hF
    have hx := hC.1
    refine lv_iload_n hx hb dX10_explore_73 rfl (lv_at hl 2 rfl) ?_
    refine lv_aload_n hx hb dX10_explore_74 rfl (lv_at hl 0 rfl) ?_
    refine gf_X10_207 hC hb hP dX10_explore_75 ?_
    refine lv_icmp_ge (tgt := 118) hx hb dX10_explore_78 (by decide) (fun c1 => ?_) (fun c1 => ?_)
    · have h := of_t h c1
      exact t_X10_explore_118 hX  hF ht htab k23 hk23 v1 σ _ _ _ h hP hS (lv_sub hl [0, 1] rfl)
    · have h := of_f h c1
      refine lv_aload_n hx hb dX10_explore_81 rfl (lv_at hl 0 rfl) ?_
      refine gf_X10_78 hC hb hP dX10_explore_82 ?_
      refine lv_iload_n hx hb dX10_explore_85 rfl (lv_at hl 1 rfl) ?_
      obtain ⟨g2, h⟩ := of_gd h
      refine x_zald hC hb hP (lm_22 X) g2 dX10_explore_86 ?_
      refine lv_if_ne (tgt := 118) hx hb dX10_explore_87 (by decide) (fun c3 => ?_) (fun c3 => ?_)
      · have h := of_f h c3
        exact t_X10_explore_118 hX  hF ht htab k23 hk23 v1 σ _ _ _ h hP hS (lv_sub hl [0, 1] rfl)
      · have h := of_t h c3
        refine lv_aload_n hx hb dX10_explore_90 rfl (lv_at hl 0 rfl) ?_
        refine lv_aload_n hx hb dX10_explore_91 rfl (lv_at hl 0 rfl) ?_
        refine gf_X10_53 hC hb hP dX10_explore_92 ?_
        refine lv_iload_n hx hb dX10_explore_95 rfl (lv_at hl 2 rfl) ?_
        obtain ⟨g4, h⟩ := of_gd h
        refine x_iald hC hb hP (lm_15 X) g4 dX10_explore_96 ?_
        refine lv_iload_n hx hb dX10_explore_97 rfl (lv_at hl 1 rfl) ?_
        obtain ⟨r5, σ6, g7, h⟩ := of_bnd h
        refine x_VL (As := [.int (gA σ 15 (v2.toNatClampNeg)), .int v1]) (rest := []) hF hl hP hS (c_X10_worthOf hX g7) (cw_X10_366 hC rfl rfl ⟨Nat.le_of_ble_eq_true rfl, Nat.le_of_ble_eq_true rfl⟩) (lm_0 X) rfl rfl rfl (Nat.le_of_ble_eq_true rfl) dX10_explore_98 ⟨Nat.zero_le _, Nat.zero_le _⟩ (fun H locs hP hS => ?_)
        refine lv_lconst (v := 0) hx hb dX10_explore_101 (by decide) ?_
        refine W.lcmp hx hb dX10_explore_102 ?_
        refine lv_if_eq (tgt := 112) hx hb dX10_explore_103 (by decide) (fun c8 => ?_) (fun c8 => ?_)
        · have h := of_t h c8
          exact t_X10_explore_112 hX  hF ht htab k23 (f_X10_explore_73 k23 n) hk23 ih v1 v2 σ6 _ _ _ h hP hS (lv_sub hl [0, 1, 2] rfl)
        · have h := of_f h c8
          refine lv_aload_n hx hb dX10_explore_106 rfl (lv_at hl 0 rfl) ?_
          refine lv_iload_n hx hb dX10_explore_107 rfl (lv_at hl 1 rfl) ?_
          refine lv_iload_n hx hb dX10_explore_108 rfl (lv_at hl 2 rfl) ?_
          rcases of_bnw h with ⟨r9, σ10, g11, h⟩ | ⟨Xx, σ10, g11, rfl⟩
          rotate_left
          · exact x_VTw (As := [.int v1, .int v2]) (rest := []) hF hl hP hS (c_X10_choose hX ht g11) (cw_X10_392 hC rfl rfl ⟨Nat.le_of_ble_eq_true rfl, Nat.le_of_ble_eq_true rfl⟩) (lm_0 X) rfl rfl rfl (Nat.le_of_ble_eq_true rfl) dX10_explore_109 ⟨Nat.le_refl _, Nat.le_refl _⟩ (htab _ _ rfl)
          refine x_VV (As := [.int v1, .int v2]) (rest := []) hF hl hP hS (c_X10_choose hX ht g11) (cw_X10_392 hC rfl rfl ⟨Nat.le_of_ble_eq_true rfl, Nat.le_of_ble_eq_true rfl⟩) (lm_0 X) rfl rfl rfl (Nat.le_of_ble_eq_true rfl) dX10_explore_109 ⟨Nat.zero_le _, Nat.zero_le _⟩ (fun H locs hP hS => ?_)
          exact t_X10_explore_112 hX  hF ht htab k23 (f_X10_explore_73 k23 n) hk23 ih v1 v2 σ10 _ _ _ h hP hS (lv_sub hl [0, 1, 2] rfl)

def f_X10_explore_63 (k23 : Int32 → Sta → Option ((Unit ⊕ (Int32 × Int32)) × Sta)) (v1 : Int32) (s0 : Int32) (s1 : Int32) (σ : Sta) : Option ((Unit ⊕ (Int32 × Int32)) × Sta) :=
  if s1 < 0 ∨ 100 ≤ (s1.toNatClampNeg) then none else (
  lt (sA σ 22 (upd (gA σ 22) (s1.toNatClampNeg) (vp_nar .boolean s0))) (fun σ2 =>
  if v1 < 0 ∨ 100 ≤ (v1.toNatClampNeg) then none else (
  lt (sA σ2 23 (upd (gA σ2 23) (v1.toNatClampNeg) 0)) (fun σ4 =>
  f_X10_explore_73 k23 FU v1 0 σ4))))
set_option maxHeartbeats 4000000 in
set_option maxRecDepth 100000 in
theorem t_X10_explore_63 {l : Launch} {D : va_G} {Y : CYs} {E : Nat → Nat} {X : List Dsc} (hX : Lok (LM ++ X)) {p : Program} {e : Env} {s : State} {m : MethodId} {args : Array Value} {below : List Frame} {meth : Method} {c : Code} (hF : Fr p s m args meth c RX10 cX10_explore 3 none D Y E (LM ++ X)) {o : (Unit ⊕ (Int32 × Int32)) × Sta} (ht : l.stackTraces = false) (htab : ∀ X u, o = (.inr X, u) → ∀ x ∈ c.exceptionTable.toList, False) (k23 : Int32 → Sta → Option ((Unit ⊕ (Int32 × Int32)) × Sta)) (hk23 : ∀ (v1 : Int32) (σ : Sta) (H : Heap) (locs : List Loc) (ls : Array Slot), k23 v1 σ = some o → va_P D vwCl (wd Y E σ 0 (LM ++ X)) H → va_S (AF E (LM ++ X).length s.heap.size) s.heap H locs → lv_has ls 3 [(0, .ref (E 0)), (1, .int v1)] → W p l e (rmw 8 154 o) s m args below meth c H locs 0 0 (QwV below args s (LM ++ X) Y D E o) (F0 m 23 ls [])) : ∀ (v1 : Int32) (s0 : Int32) (s1 : Int32) (σ : Sta) (H : Heap) (locs : List Loc) (ls : Array Slot), f_X10_explore_63 k23 v1 s0 s1 σ = some o → va_P D vwCl (wd Y E σ 0 (LM ++ X)) H → va_S (AF E (LM ++ X).length s.heap.size) s.heap H locs → lv_has ls 3 [(0, .ref (E 0)), (1, .int v1)] → W p l e (rmw 8 154 o) s m args below meth c H locs 0 0 (QwV below args s (LM ++ X) Y D E o) (F0 m 63 ls [.int s0, .int s1, .ref (E 22)]) := by
  intro v1 s0 s1 σ H locs ls h hP hS hl
  unfold f_X10_explore_63 at h
  obtain ⟨hC, hb, hml, hr, hlk, hD, hSW⟩ := id hF
  have hx := hC.1
  obtain ⟨g1, h⟩ := of_gd h
  refine x_zast hX hC hb hP hD hS (lm_22 X) g1 dX10_explore_63 (fun H locs σ2 eσ2 hP hS => ?_)
  have h := of_lt h eσ2
  refine lv_aload_n hx hb dX10_explore_64 rfl (lv_at hl 0 rfl) ?_
  refine gf_X10_82 hC hb hP dX10_explore_65 ?_
  refine lv_iload_n hx hb dX10_explore_68 rfl (lv_at hl 1 rfl) ?_
  refine lv_iconst (v := 0) hx hb dX10_explore_69 (by decide) ?_
  obtain ⟨g3, h⟩ := of_gd h
  refine x_iast hX hC hb hP hD hS (lm_23 X) g3 dX10_explore_70 (fun H locs σ4 eσ4 hP hS => ?_)
  have h := of_lt h eσ4
  refine lv_iconst (v := 0) hx hb dX10_explore_71 (by decide) ?_
  refine lv_istore_n (lv' := [(2, .int 0), (0, .ref (E 0)), (1, .int v1)]) hx hb dX10_explore_72 rfl hl (by decide) rfl (fun ls hl => ?_)
  exact t_X10_explore_73 hX  hF ht htab k23 hk23 FU v1 0 σ4 _ _ _ h hP hS (lv_sub hl [1, 2, 0] rfl)

def f_X10_explore_62 (k23 : Int32 → Sta → Option ((Unit ⊕ (Int32 × Int32)) × Sta)) (v1 : Int32) (s0 : Int32) (σ : Sta) : Option ((Unit ⊕ (Int32 × Int32)) × Sta) :=
  f_X10_explore_63 k23 v1 0 s0 σ
set_option maxHeartbeats 4000000 in
set_option maxRecDepth 100000 in
theorem t_X10_explore_62 {l : Launch} {D : va_G} {Y : CYs} {E : Nat → Nat} {X : List Dsc} (hX : Lok (LM ++ X)) {p : Program} {e : Env} {s : State} {m : MethodId} {args : Array Value} {below : List Frame} {meth : Method} {c : Code} (hF : Fr p s m args meth c RX10 cX10_explore 3 none D Y E (LM ++ X)) {o : (Unit ⊕ (Int32 × Int32)) × Sta} (ht : l.stackTraces = false) (htab : ∀ X u, o = (.inr X, u) → ∀ x ∈ c.exceptionTable.toList, False) (k23 : Int32 → Sta → Option ((Unit ⊕ (Int32 × Int32)) × Sta)) (hk23 : ∀ (v1 : Int32) (σ : Sta) (H : Heap) (locs : List Loc) (ls : Array Slot), k23 v1 σ = some o → va_P D vwCl (wd Y E σ 0 (LM ++ X)) H → va_S (AF E (LM ++ X).length s.heap.size) s.heap H locs → lv_has ls 3 [(0, .ref (E 0)), (1, .int v1)] → W p l e (rmw 8 154 o) s m args below meth c H locs 0 0 (QwV below args s (LM ++ X) Y D E o) (F0 m 23 ls [])) : ∀ (v1 : Int32) (s0 : Int32) (σ : Sta) (H : Heap) (locs : List Loc) (ls : Array Slot), f_X10_explore_62 k23 v1 s0 σ = some o → va_P D vwCl (wd Y E σ 0 (LM ++ X)) H → va_S (AF E (LM ++ X).length s.heap.size) s.heap H locs → lv_has ls 3 [(0, .ref (E 0)), (1, .int v1)] → W p l e (rmw 8 154 o) s m args below meth c H locs 0 0 (QwV below args s (LM ++ X) Y D E o) (F0 m 62 ls [.int s0, .ref (E 22)]) := by
  intro v1 s0 σ H locs ls h hP hS hl
  unfold f_X10_explore_62 at h
  obtain ⟨hC, hb, hml, hr, hlk, hD, hSW⟩ := id hF
  have hx := hC.1
  refine lv_iconst (v := 0) hx hb dX10_explore_62 (by decide) ?_
  exact t_X10_explore_63 hX  hF ht htab k23 hk23 v1 0 s0 σ _ _ _ h hP hS (lv_sub hl [0, 1] rfl)

def f_X10_explore_23 : Nat → Int32 → Sta → Option ((Unit ⊕ (Int32 × Int32)) × Sta)
  | 0, _, _ => none
  | n + 1, v1, σ => if gI σ 37 ≤ v1 then
      some (.inl (), σ)
    else
      if gI σ 18 = -1 then
        f_X10_explore_62 (f_X10_explore_23 n) v1 v1 σ
      else
        bnd (f_X10_worthOf (gI σ 18) v1 σ) (fun r3 σ4 =>
        if lg_cmp r3 0 = 0 then
          f_X10_explore_62 (f_X10_explore_23 n) v1 v1 σ4
        else
          f_X10_explore_63 (f_X10_explore_23 n) v1 1 v1 σ4)
set_option maxHeartbeats 4000000 in
set_option maxRecDepth 100000 in
theorem t_X10_explore_23 {l : Launch} {D : va_G} {Y : CYs} {E : Nat → Nat} {X : List Dsc} (hX : Lok (LM ++ X)) {p : Program} {e : Env} {s : State} {m : MethodId} {args : Array Value} {below : List Frame} {meth : Method} {c : Code} (hF : Fr p s m args meth c RX10 cX10_explore 3 none D Y E (LM ++ X)) {o : (Unit ⊕ (Int32 × Int32)) × Sta} (ht : l.stackTraces = false) (htab : ∀ X u, o = (.inr X, u) → ∀ x ∈ c.exceptionTable.toList, False) : ∀ (n : Nat) (v1 : Int32) (σ : Sta) (H : Heap) (locs : List Loc) (ls : Array Slot), f_X10_explore_23 n v1 σ = some o → va_P D vwCl (wd Y E σ 0 (LM ++ X)) H → va_S (AF E (LM ++ X).length s.heap.size) s.heap H locs → lv_has ls 3 [(0, .ref (E 0)), (1, .int v1)] → W p l e (rmw 8 154 o) s m args below meth c H locs 0 0 (QwV below args s (LM ++ X) Y D E o) (F0 m 23 ls []) := by
  intro n
  induction n with
  | zero =>
    intro v1 σ H locs ls h hP hS hl
    exact nomatch (show (none : Option ((Unit ⊕ (Int32 × Int32)) × Sta)) = some o from h)
  | succ n ih =>
    intro v1 σ H locs ls h hP hS hl
    rw [f_X10_explore_23] at h
    obtain ⟨hC, hb, hml, hr, hlk, hD, hSW⟩ := id hF
    have hx := hC.1
    refine lv_iload_n hx hb dX10_explore_23 rfl (lv_at hl 1 rfl) ?_
    refine lv_aload_n hx hb dX10_explore_24 rfl (lv_at hl 0 rfl) ?_
    refine gf_X10_213 hC hb hP dX10_explore_25 ?_
    refine lv_icmp_ge (tgt := 124) hx hb dX10_explore_28 (by decide) (fun c1 => ?_) (fun c1 => ?_)
    · have h := of_t h c1
      exact x_vretW hF hP hS h dX10_explore_124
    · have h := of_f h c1
      refine lv_aload_n hx hb dX10_explore_31 rfl (lv_at hl 0 rfl) ?_
      refine gf_X10_78 hC hb hP dX10_explore_32 ?_
      refine lv_iload_n hx hb dX10_explore_35 rfl (lv_at hl 1 rfl) ?_
      refine lv_aload_n hx hb dX10_explore_36 rfl (lv_at hl 0 rfl) ?_
      refine gf_X10_204 hC hb hP dX10_explore_37 ?_
      refine lv_iconst (v := -1) hx hb dX10_explore_40 (by decide) ?_
      refine lv_icmp_eq (tgt := 62) hx hb dX10_explore_41 (by decide) (fun c2 => ?_) (fun c2 => ?_)
      · have h := of_t h c2
        exact t_X10_explore_62 hX  hF ht htab (f_X10_explore_23 n) ih v1 v1 σ _ _ _ h hP hS (lv_sub hl [0, 1] rfl)
      · have h := of_f h c2
        refine lv_aload_n hx hb dX10_explore_44 rfl (lv_at hl 0 rfl) ?_
        refine lv_aload_n hx hb dX10_explore_45 rfl (lv_at hl 0 rfl) ?_
        refine gf_X10_204 hC hb hP dX10_explore_46 ?_
        refine lv_iload_n hx hb dX10_explore_49 rfl (lv_at hl 1 rfl) ?_
        obtain ⟨r3, σ4, g5, h⟩ := of_bnd h
        refine x_VL (As := [.int (gI σ 18), .int v1]) (rest := [.int v1, .ref (E 22)]) hF hl hP hS (c_X10_worthOf hX g5) (cw_X10_366 hC rfl rfl ⟨Nat.le_of_ble_eq_true rfl, Nat.le_of_ble_eq_true rfl⟩) (lm_0 X) rfl rfl rfl (Nat.le_of_ble_eq_true rfl) dX10_explore_50 ⟨Nat.zero_le _, Nat.zero_le _⟩ (fun H locs hP hS => ?_)
        refine lv_lconst (v := 0) hx hb dX10_explore_53 (by decide) ?_
        refine W.lcmp hx hb dX10_explore_54 ?_
        refine lv_if_eq (tgt := 62) hx hb dX10_explore_55 (by decide) (fun c6 => ?_) (fun c6 => ?_)
        · have h := of_t h c6
          exact t_X10_explore_62 hX  hF ht htab (f_X10_explore_23 n) ih v1 v1 σ4 _ _ _ h hP hS (lv_sub hl [0, 1] rfl)
        · have h := of_f h c6
          refine lv_iconst (v := 1) hx hb dX10_explore_58 (by decide) ?_
          refine lv_goto (tgt := 63) hx hb dX10_explore_59 (by decide) ?_
          exact t_X10_explore_63 hX  hF ht htab (f_X10_explore_23 n) ih v1 1 v1 σ4 _ _ _ h hP hS (lv_sub hl [0, 1] rfl)

def f_X10_explore (σ : Sta) : Option ((Unit ⊕ (Int32 × Int32)) × Sta) :=
  if (0 : Int32) < 0 ∨ (0 : Int32) < 0 ∨ (6 : Int32) < 0 ∨ 6 < ((0 : Int32).toNatClampNeg) + ((6 : Int32).toNatClampNeg) ∨ 6 < ((0 : Int32).toNatClampNeg) + ((6 : Int32).toNatClampNeg) then none else (
  lt (sA σ 28 (va_cpy (gA σ 8) (gA σ 28) ((0 : Int32).toNatClampNeg) ((0 : Int32).toNatClampNeg) ((6 : Int32).toNatClampNeg))) (fun σ2 =>
  bnw (f_X10_find 0 σ2) (fun r3 σ4 =>
  f_X10_explore_23 FU 0 σ4)))
set_option maxHeartbeats 4000000 in
set_option maxRecDepth 100000 in
theorem c_X10_explore {l : Launch} {D : va_G} {Y : CYs} {E : Nat → Nat} {X : List Dsc} (hX : Lok (LM ++ X)) (ht : l.stackTraces = false) {σ : Sta} {o : (Unit ⊕ (Int32 × Int32)) × Sta} (h : f_X10_explore σ = some o) : MWV l yX10_explore (Cond.code yX10_explore cX10_explore 3 none :: gW) 8 154 (LM ++ X) Y D E [.ref (E 0)] σ o := by
  refine Met_ofWV (by decide) (Nat.le_of_ble_eq_true rfl) (fun p e s m args below meth c hF hP htab ls hl => ?_)
  have hS : va_S (AF E (LM ++ X).length s.heap.size) s.heap s.heap [] := va_S.rf
  have hl : lv_has ls 3 [(0, .ref (E 0))] := hl
  show W p l e (rmw 8 154 o) s m args below meth c s.heap [] 0 0 (QwV below args s (LM ++ X) Y D E o) (F0 m 0 ls [])
  unfold f_X10_explore at h
  obtain ⟨hC, hb, hml, hr, hlk, hD, hSW⟩ := id hF
  have hx := hC.1
  refine lv_aload_n hx hb dX10_explore_0 rfl (lv_at hl 0 rfl) ?_
  refine gf_X10_32 hC hb hP dX10_explore_1 ?_
  refine lv_iconst (v := 0) hx hb dX10_explore_4 (by decide) ?_
  refine lv_aload_n hx hb dX10_explore_5 rfl (lv_at hl 0 rfl) ?_
  refine gf_X10_97 hC hb hP dX10_explore_6 ?_
  refine lv_iconst (v := 0) hx hb dX10_explore_9 (by decide) ?_
  refine lv_bipush (v := 6) hx hb dX10_explore_10 (by decide) ?_
  obtain ⟨g1, h⟩ := of_gd h
  refine x_copyI hX hF hl hP hS (gw_t (tb7 (List.mem_of_getElem? (i := 186) rfl)) rfl) (gw_t (tb3 (List.mem_of_getElem? (i := 229) rfl)) rfl) (gw_t (tb3 (List.mem_of_getElem? (i := 228) rfl)) rfl) (gw_t (tb1 (List.mem_of_getElem? (i := 23) rfl)) rfl) (lm_8 X) (lm_28 X) g1 (Nat.le_of_ble_eq_true rfl) (Nat.le_of_ble_eq_true rfl) dX10_explore_12 (fun H locs σ2 eσ2 hP hS => ?_)
  have h := of_lt h eσ2
  refine lv_aload_n hx hb dX10_explore_15 rfl (lv_at hl 0 rfl) ?_
  refine lv_iconst (v := 0) hx hb dX10_explore_16 (by decide) ?_
  rcases of_bnw h with ⟨r3, σ4, g5, h⟩ | ⟨Xx, σ4, g5, rfl⟩
  rotate_left
  · exact x_VTw (As := [.int 0]) (rest := []) hF hl hP hS (c_X10_find hX ht g5) (cw_X10_389 hC rfl rfl ⟨Nat.le_of_ble_eq_true rfl, Nat.le_of_ble_eq_true rfl⟩) (lm_0 X) rfl rfl rfl (Nat.le_of_ble_eq_true rfl) dX10_explore_17 ⟨Nat.le_refl _, Nat.le_refl _⟩ (htab _ _ rfl)
  refine x_VI (As := [.int 0]) (rest := []) hF hl hP hS (c_X10_find hX ht g5) (cw_X10_389 hC rfl rfl ⟨Nat.le_of_ble_eq_true rfl, Nat.le_of_ble_eq_true rfl⟩) (lm_0 X) rfl rfl rfl (Nat.le_of_ble_eq_true rfl) dX10_explore_17 ⟨Nat.zero_le _, Nat.zero_le _⟩ (fun H locs hP hS => ?_)
  refine lv_pop hx hb dX10_explore_20 rfl ?_
  refine lv_iconst (v := 0) hx hb dX10_explore_21 (by decide) ?_
  refine lv_istore_n (lv' := [(1, .int 0), (0, .ref (E 0))]) hx hb dX10_explore_22 rfl hl (by decide) rfl (fun ls hl => ?_)
  exact t_X10_explore_23 hX  hF ht htab FU 0 σ4 _ _ _ h hP hS (lv_sub hl [1, 0] rfl)
