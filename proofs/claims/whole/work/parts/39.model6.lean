theorem pf_X10_71 {p : Program} {l : Launch} {e : Env} {R : Room} {s : State} {m : MethodId} {args : Array Value} {below : List Frame} {meth : Method} {c : Code} {H : Heap} {locs : List Loc} {cells slots : Nat} {Q : State → Prop} {D : va_G} {Y : CYs} {E : Nat → Nat} {σ : Sta} {cc : ByteArray} {pc : Nat} {ls : Array Slot} {rest : List Value} {X : List Dsc} (hX : Lok (LM ++ X)) {A : Nat → Prop} {H0 : Heap} {x : Int32} (hC : Ctx p s m args RX10 D Y) (hb : c.code = cc) (hP : va_P D vwCl (wd Y E σ 0 (LM ++ X)) H) (hD : ∀ τ, va_D A (wd Y E τ 0 (LM ++ X))) (hS : va_S A H0 H locs) (hdg : decode cc pc = .ok (.putfield 71, 3)) (kk : ∀ (H1 : Heap) (locs1 : List Loc) (τ : Sta), τ = sI σ 35 x → va_P D vwCl (wd Y E τ 0 (LM ++ X)) H1 → va_S A H0 H1 locs1 → W p l e R s m args below meth c H1 locs1 cells slots Q (F0 m (pc + 3) ls rest)) : W p l e R s m args below meth c H locs cells slots Q (F0 m pc ls (.int x :: .ref (E 0) :: rest)) :=
  x_putI hX hC hb hP hD hS inGX10 tyX10 tyX10_ok nmX10 (lm_0 X) rfl 35 (by decide) rfl (gw_t (tb6 (List.mem_of_getElem? (i := 79) rfl)) rfl) rfl rfl rfl rfl rfl hdg kk
theorem cw_X10_339 {R : Room} {p : Program} {s : State} {m : MethodId} {args : Array Value} {D : va_G} {Y : CYs} {rm : Room} (hC : Ctx p s m args RX10 D Y) (hrc : rm.cells = 0) (hrs : rm.slots = 0) (hR : rm.frames + 1 ≤ R.frames ∧ 8 + (2 + 11) + rm.locals ≤ R.locals) : CallW R s args RX10 RX10 339 yX10_clearProgram cX10_clearProgram 2 none (Cond.code yX10_clearProgram cX10_clearProgram 2 none :: gW) rm 0 0 0 :=
  cwV 0 hC.2.1 (gi_V (gw_t (tb7 (List.mem_of_getElem? (i := 37) rfl)) rfl) (gw_t (tb7 (List.mem_of_getElem? (i := 39) rfl)) rfl) (gw_s (q := (⟨"MarkovBenchModel", "clearProgram", "()V"⟩, 57)) (lp5_ (List.mem_of_getElem? (i := 2) rfl))) (gw_t (tb1 (List.mem_of_getElem? (i := 10) rfl)) rfl) (gw_t (tb7 (List.mem_of_getElem? (i := 40) rfl)) rfl)) rfl hrc hrs ⟨rfl, by decide +kernel, by decide +kernel, by decide +kernel⟩ hR
theorem cw_X10_345 {R : Room} {p : Program} {s : State} {m : MethodId} {args : Array Value} {D : va_G} {Y : CYs} {rm : Room} {mc ms : Nat} (hC : Ctx p s m args RX10 D Y) (hrc : rm.cells = mc) (hrs : rm.slots = ms) (hR : rm.frames + 1 ≤ R.frames ∧ 8 + (3 + 11) + rm.locals ≤ R.locals) : CallW R s args RX10 RX10 345 yX10_explore cX10_explore 3 none (Cond.code yX10_explore cX10_explore 3 none :: gW) rm mc ms 0 :=
  cwV 0 hC.2.1 (gi_V (gw_t (tb7 (List.mem_of_getElem? (i := 182) rfl)) rfl) (gw_t (tb7 (List.mem_of_getElem? (i := 184) rfl)) rfl) (gw_s (q := (⟨"MarkovBenchModel", "explore", "()V"⟩, 57)) (lp6_ (List.mem_of_getElem? (i := 14) rfl))) (gw_t (tb1 (List.mem_of_getElem? (i := 10) rfl)) rfl) (gw_t (tb7 (List.mem_of_getElem? (i := 185) rfl)) rfl)) rfl hrc hrs ⟨rfl, by decide +kernel, by decide +kernel, by decide +kernel⟩ hR
theorem cw_X10_336 {R : Room} {p : Program} {s : State} {m : MethodId} {args : Array Value} {D : va_G} {Y : CYs} {rm : Room} (hC : Ctx p s m args RX10 D Y) (hrc : rm.cells = 0) (hrs : rm.slots = 0) (hR : rm.frames + 1 ≤ R.frames ∧ 8 + (7 + 11) + rm.locals ≤ R.locals) : CallW R s args RX10 RX10 336 yX10_cutTokens cX10_cutTokens 7 none (Cond.code yX10_cutTokens cX10_cutTokens 7 none :: gW) rm 0 0 0 :=
  cwV 0 hC.2.1 (gi_V (gw_t (tb7 (List.mem_of_getElem? (i := 5) rfl)) rfl) (gw_t (tb7 (List.mem_of_getElem? (i := 7) rfl)) rfl) (gw_s (q := (⟨"MarkovBenchModel", "cutTokens", "()V"⟩, 57)) (lp4_ (List.mem_of_getElem? (i := 14) rfl))) (gw_t (tb1 (List.mem_of_getElem? (i := 10) rfl)) rfl) (gw_t (tb7 (List.mem_of_getElem? (i := 8) rfl)) rfl)) rfl hrc hrs ⟨rfl, by decide +kernel, by decide +kernel, by decide +kernel⟩ hR
theorem pf_X10_227 {p : Program} {l : Launch} {e : Env} {R : Room} {s : State} {m : MethodId} {args : Array Value} {below : List Frame} {meth : Method} {c : Code} {H : Heap} {locs : List Loc} {cells slots : Nat} {Q : State → Prop} {D : va_G} {Y : CYs} {E : Nat → Nat} {σ : Sta} {cc : ByteArray} {pc : Nat} {ls : Array Slot} {rest : List Value} {X : List Dsc} (hX : Lok (LM ++ X)) {A : Nat → Prop} {H0 : Heap} {x : Int32} (hC : Ctx p s m args RX10 D Y) (hb : c.code = cc) (hP : va_P D vwCl (wd Y E σ 0 (LM ++ X)) H) (hD : ∀ τ, va_D A (wd Y E τ 0 (LM ++ X))) (hS : va_S A H0 H locs) (hz : x = 0 ∨ x = 1) (hdg : decode cc pc = .ok (.putfield 227, 3)) (kk : ∀ (H1 : Heap) (locs1 : List Loc) (τ : Sta), τ = sI σ 30 x → va_P D vwCl (wd Y E τ 0 (LM ++ X)) H1 → va_S A H0 H1 locs1 → W p l e R s m args below meth c H1 locs1 cells slots Q (F0 m (pc + 3) ls rest)) : W p l e R s m args below meth c H locs cells slots Q (F0 m pc ls (.int x :: .ref (E 0) :: rest)) :=
  x_putI hX hC hb hP hD hS inGX10 tyX10 tyX10_ok nmX10 (lm_0 X) rfl 30 (by decide) rfl (gw_t (tb6 (List.mem_of_getElem? (i := 74) rfl)) rfl) rfl rfl rfl (zn hz) (zfit hz) hdg kk
theorem cw_X10_342 {R : Room} {p : Program} {s : State} {m : MethodId} {args : Array Value} {D : va_G} {Y : CYs} {rm : Room} {mc ms : Nat} (hC : Ctx p s m args RX10 D Y) (hrc : rm.cells = mc) (hrs : rm.slots = ms) (hR : rm.frames + 1 ≤ R.frames ∧ 8 + (1 + 11) + rm.locals ≤ R.locals) : CallW R s args RX10 RX10 342 yX10_readAll cX10_readAll 1 none (Cond.code yX10_readAll cX10_readAll 1 none :: gW) rm mc ms 0 :=
  cwV 0 hC.2.1 (gi_V (gw_t (tb7 (List.mem_of_getElem? (i := 41) rfl)) rfl) (gw_t (tb7 (List.mem_of_getElem? (i := 43) rfl)) rfl) (gw_s (q := (⟨"MarkovBenchModel", "readAll", "()V"⟩, 57)) (lp5_ (List.mem_of_getElem? (i := 3) rfl))) (gw_t (tb1 (List.mem_of_getElem? (i := 10) rfl)) rfl) (gw_t (tb7 (List.mem_of_getElem? (i := 44) rfl)) rfl)) rfl hrc hrs ⟨rfl, by decide +kernel, by decide +kernel, by decide +kernel⟩ hR
theorem gf_X10_71 {p : Program} {l : Launch} {e : Env} {R : Room} {s : State} {m : MethodId} {args : Array Value} {below : List Frame} {meth : Method} {c : Code} {H : Heap} {locs : List Loc} {cells slots : Nat} {Q : State → Prop} {D : va_G} {Y : CYs} {E : Nat → Nat} {σ : Sta} {cc : ByteArray} {pc : Nat} {ls : Array Slot} {rest : List Value} {X : List Dsc} (hC : Ctx p s m args RX10 D Y) (hb : c.code = cc) (hP : va_P D vwCl (wd Y E σ 0 (LM ++ X)) H) (hdg : decode cc pc = .ok (.getfield 71, 3)) (kk : W p l e R s m args below meth c H locs cells slots Q (F0 m (pc + 3) ls (.int (gI σ 35) :: rest))) : W p l e R s m args below meth c H locs cells slots Q (F0 m pc ls (.ref (E 0) :: rest)) :=
  x_getI hC hb hP inGX10 (lm_0 X) rfl 35 (by decide) rfl (gw_t (tb6 (List.mem_of_getElem? (i := 79) rfl)) rfl) rfl hdg kk
theorem gf_X10_216 {p : Program} {l : Launch} {e : Env} {R : Room} {s : State} {m : MethodId} {args : Array Value} {below : List Frame} {meth : Method} {c : Code} {H : Heap} {locs : List Loc} {cells slots : Nat} {Q : State → Prop} {D : va_G} {Y : CYs} {E : Nat → Nat} {σ : Sta} {cc : ByteArray} {pc : Nat} {ls : Array Slot} {rest : List Value} {X : List Dsc} (hC : Ctx p s m args RX10 D Y) (hb : c.code = cc) (hP : va_P D vwCl (wd Y E σ 0 (LM ++ X)) H) (hdg : decode cc pc = .ok (.getfield 216, 3)) (kk : W p l e R s m args below meth c H locs cells slots Q (F0 m (pc + 3) ls (.int (gI σ 47) :: rest))) : W p l e R s m args below meth c H locs cells slots Q (F0 m pc ls (.ref (E 0) :: rest)) :=
  x_getI hC hb hP inGX10 (lm_0 X) rfl 47 (by decide) rfl (gw_t (tb6 (List.mem_of_getElem? (i := 91) rfl)) rfl) rfl hdg kk
theorem cw_X10_356 {R : Room} {p : Program} {s : State} {m : MethodId} {args : Array Value} {D : va_G} {Y : CYs} {rm : Room} (hC : Ctx p s m args RX10 D Y) (hrc : rm.cells = 0) (hrs : rm.slots = 0) (hR : rm.frames + 1 ≤ R.frames ∧ 8 + (2 + 11) + rm.locals ≤ R.locals) : CallW R s args RX10 RX10 356 yX10_counted cX10_counted 2 (some .int) (Cond.code yX10_counted cX10_counted 2 (some .int) :: gW) rm 0 0 1 :=
  cwV 1 hC.2.1 (gi_V (gw_t (tb7 (List.mem_of_getElem? (i := 213) rfl)) rfl) (gw_t (tb7 (List.mem_of_getElem? (i := 215) rfl)) rfl) (gw_s (q := (⟨"MarkovBenchModel", "counted", "(I)I"⟩, 57)) (lp7_ (List.mem_of_getElem? (i := 2) rfl))) (gw_t (tb1 (List.mem_of_getElem? (i := 10) rfl)) rfl) (gw_t (tb7 (List.mem_of_getElem? (i := 216) rfl)) rfl)) rfl hrc hrs ⟨rfl, by decide +kernel, by decide +kernel, by decide +kernel⟩ hR
theorem pf_X10_362 {p : Program} {l : Launch} {e : Env} {R : Room} {s : State} {m : MethodId} {args : Array Value} {below : List Frame} {meth : Method} {c : Code} {H : Heap} {locs : List Loc} {cells slots : Nat} {Q : State → Prop} {D : va_G} {Y : CYs} {E : Nat → Nat} {σ : Sta} {cc : ByteArray} {pc : Nat} {ls : Array Slot} {rest : List Value} {X : List Dsc} (hX : Lok (LM ++ X)) {A : Nat → Prop} {H0 : Heap} {x : Int64} (hC : Ctx p s m args RX10 D Y) (hb : c.code = cc) (hP : va_P D vwCl (wd Y E σ 0 (LM ++ X)) H) (hD : ∀ τ, va_D A (wd Y E τ 0 (LM ++ X))) (hS : va_S A H0 H locs) (hdg : decode cc pc = .ok (.putfield 362, 3)) (kk : ∀ (H1 : Heap) (locs1 : List Loc) (τ : Sta), τ = sL σ 36 x → va_P D vwCl (wd Y E τ 0 (LM ++ X)) H1 → va_S A H0 H1 locs1 → W p l e R s m args below meth c H1 locs1 cells slots Q (F0 m (pc + 3) ls rest)) : W p l e R s m args below meth c H locs cells slots Q (F0 m pc ls (.long x :: .ref (E 0) :: rest)) :=
  x_putL hX hC hb hP hD hS inGX10 tyX10 tyX10_ok nmX10 (lm_0 X) rfl 36 (by decide) rfl (gw_t (tb6 (List.mem_of_getElem? (i := 80) rfl)) rfl) rfl rfl rfl hdg kk
theorem cw_X10_359 {R : Room} {p : Program} {s : State} {m : MethodId} {args : Array Value} {D : va_G} {Y : CYs} {rm : Room} (hC : Ctx p s m args RX10 D Y) (hrc : rm.cells = 0) (hrs : rm.slots = 0) (hR : rm.frames + 1 ≤ R.frames ∧ 8 + (2 + 11) + rm.locals ≤ R.locals) : CallW R s args RX10 RX10 359 yX10_isState cX10_isState 2 (some .boolean) (Cond.code yX10_isState cX10_isState 2 (some .boolean) :: gW) rm 0 0 1 :=
  cwV 1 hC.2.1 (gi_V (gw_t (tb7 (List.mem_of_getElem? (i := 221) rfl)) rfl) (gw_t (tb7 (List.mem_of_getElem? (i := 223) rfl)) rfl) (gw_s (q := (⟨"MarkovBenchModel", "isState", "(I)Z"⟩, 57)) (lp7_ (List.mem_of_getElem? (i := 3) rfl))) (gw_t (tb1 (List.mem_of_getElem? (i := 10) rfl)) rfl) (gw_t (tb7 (List.mem_of_getElem? (i := 224) rfl)) rfl)) rfl hrc hrs ⟨rfl, by decide +kernel, by decide +kernel, by decide +kernel⟩ hR
theorem gf_X10_362 {p : Program} {l : Launch} {e : Env} {R : Room} {s : State} {m : MethodId} {args : Array Value} {below : List Frame} {meth : Method} {c : Code} {H : Heap} {locs : List Loc} {cells slots : Nat} {Q : State → Prop} {D : va_G} {Y : CYs} {E : Nat → Nat} {σ : Sta} {cc : ByteArray} {pc : Nat} {ls : Array Slot} {rest : List Value} {X : List Dsc} (hC : Ctx p s m args RX10 D Y) (hb : c.code = cc) (hP : va_P D vwCl (wd Y E σ 0 (LM ++ X)) H) (hdg : decode cc pc = .ok (.getfield 362, 3)) (kk : W p l e R s m args below meth c H locs cells slots Q (F0 m (pc + 3) ls (.long (gL σ 36) :: rest))) : W p l e R s m args below meth c H locs cells slots Q (F0 m pc ls (.ref (E 0) :: rest)) :=
  x_getL hC hb hP inGX10 (lm_0 X) rfl 36 (by decide) rfl (gw_t (tb6 (List.mem_of_getElem? (i := 80) rfl)) rfl) rfl hdg kk
theorem cw_X10_395 {R : Room} {p : Program} {s : State} {m : MethodId} {args : Array Value} {D : va_G} {Y : CYs} {rm : Room} (hC : Ctx p s m args RX10 D Y) (hrc : rm.cells = 0) (hrs : rm.slots = 0) (hR : rm.frames + 1 ≤ R.frames ∧ 8 + (2 + 11) + rm.locals ≤ R.locals) : CallW R s args RX10 RX10 395 yX10_choicesTold cX10_choicesTold 2 (some .int) (Cond.code yX10_choicesTold cX10_choicesTold 2 (some .int) :: gW) rm 0 0 1 :=
  cwV 1 hC.2.1 (gi_V (gw_t (tb7 (List.mem_of_getElem? (i := 237) rfl)) rfl) (gw_t (tb7 (List.mem_of_getElem? (i := 239) rfl)) rfl) (gw_s (q := (⟨"MarkovBenchModel", "choicesTold", "(I)I"⟩, 57)) (lp7_ (List.mem_of_getElem? (i := 4) rfl))) (gw_t (tb1 (List.mem_of_getElem? (i := 10) rfl)) rfl) (gw_t (tb8 (List.mem_of_getElem? (i := 0) rfl)) rfl)) rfl hrc hrs ⟨rfl, by decide +kernel, by decide +kernel, by decide +kernel⟩ hR
theorem cw_X10_398 {R : Room} {p : Program} {s : State} {m : MethodId} {args : Array Value} {D : va_G} {Y : CYs} {rm : Room} (hC : Ctx p s m args RX10 D Y) (hrc : rm.cells = 0) (hrs : rm.slots = 0) (hR : rm.frames + 1 ≤ R.frames ∧ 8 + (3 + 11) + rm.locals ≤ R.locals) : CallW R s args RX10 RX10 398 yX10_isChoice cX10_isChoice 3 (some .boolean) (Cond.code yX10_isChoice cX10_isChoice 3 (some .boolean) :: gW) rm 0 0 2 :=
  cwV 2 hC.2.1 (gi_V (gw_t (tb8 (List.mem_of_getElem? (i := 5) rfl)) rfl) (gw_t (tb8 (List.mem_of_getElem? (i := 7) rfl)) rfl) (gw_s (q := (⟨"MarkovBenchModel", "isChoice", "(II)Z"⟩, 57)) (lp7_ (List.mem_of_getElem? (i := 5) rfl))) (gw_t (tb1 (List.mem_of_getElem? (i := 10) rfl)) rfl) (gw_t (tb8 (List.mem_of_getElem? (i := 8) rfl)) rfl)) rfl hrc hrs ⟨rfl, by decide +kernel, by decide +kernel, by decide +kernel⟩ hR
theorem cw_X10_402 {R : Room} {p : Program} {s : State} {m : MethodId} {args : Array Value} {D : va_G} {Y : CYs} {rm : Room} (hC : Ctx p s m args RX10 D Y) (hrc : rm.cells = 0) (hrs : rm.slots = 0) (hR : rm.frames + 1 ≤ R.frames ∧ 8 + (2 + 11) + rm.locals ≤ R.locals) : CallW R s args RX10 RX10 402 yX10_manyBranches cX10_manyBranches 2 (some .int) (Cond.code yX10_manyBranches cX10_manyBranches 2 (some .int) :: gW) rm 0 0 1 :=
  cwV 1 hC.2.1 (gi_V (gw_t (tb8 (List.mem_of_getElem? (i := 9) rfl)) rfl) (gw_t (tb8 (List.mem_of_getElem? (i := 11) rfl)) rfl) (gw_s (q := (⟨"MarkovBenchModel", "manyBranches", "(I)I"⟩, 57)) (lp7_ (List.mem_of_getElem? (i := 6) rfl))) (gw_t (tb1 (List.mem_of_getElem? (i := 10) rfl)) rfl) (gw_t (tb8 (List.mem_of_getElem? (i := 12) rfl)) rfl)) rfl hrc hrs ⟨rfl, by decide +kernel, by decide +kernel, by decide +kernel⟩ hR
theorem cw_X10_405 {R : Room} {p : Program} {s : State} {m : MethodId} {args : Array Value} {D : va_G} {Y : CYs} {rm : Room} (hC : Ctx p s m args RX10 D Y) (hrc : rm.cells = 0) (hrs : rm.slots = 0) (hR : rm.frames + 1 ≤ R.frames ∧ 8 + (3 + 11) + rm.locals ≤ R.locals) : CallW R s args RX10 RX10 405 yX10_chanceOf cX10_chanceOf 3 (some .int) (Cond.code yX10_chanceOf cX10_chanceOf 3 (some .int) :: gW) rm 0 0 2 :=
  cwV 2 hC.2.1 (gi_V (gw_t (tb8 (List.mem_of_getElem? (i := 21) rfl)) rfl) (gw_t (tb8 (List.mem_of_getElem? (i := 23) rfl)) rfl) (gw_s (q := (⟨"MarkovBenchModel", "chanceOf", "(II)I"⟩, 57)) (lp7_ (List.mem_of_getElem? (i := 7) rfl))) (gw_t (tb1 (List.mem_of_getElem? (i := 10) rfl)) rfl) (gw_t (tb8 (List.mem_of_getElem? (i := 24) rfl)) rfl)) rfl hrc hrs ⟨rfl, by decide +kernel, by decide +kernel, by decide +kernel⟩ hR
abbrev rm_X10_compile : Room := { frames := 117, cells := 1, slots := 8, locals := 4342 }
def f_X10_compile_92 (v1 : Int32) (σ : Sta) : Option (Int32 × Sta) :=
  lt (sI σ 3 0) (fun σ1 =>
  some (v1, σ1))
set_option maxHeartbeats 4000000 in
set_option maxRecDepth 100000 in
theorem t_X10_compile_92 {l : Launch} {D : va_G} {Y : CYs} {E : Nat → Nat} {X : List Dsc} (hX : Lok (LM ++ X)) {p : Program} {e : Env} {s : State} {m : MethodId} {args : Array Value} {below : List Frame} {meth : Method} {c : Code} (hF : Fr p s m args meth c RX10 cX10_compile 3 (some .int) D Y E (LM ++ X)) {o : Int32 × Sta} (ht : l.stackTraces = false) (htab : c.exceptionTable.toList = tableOf [(20, 71, 74, 222)]) : ∀ (v1 : Int32) (σ : Sta) (H : Heap) (locs : List Loc) (ls : Array Slot), f_X10_compile_92 v1 σ = some o → va_P D vwCl (wd Y E σ 0 (LM ++ X)) H → va_S (AF E (LM ++ X).length s.heap.size) s.heap H locs → lv_has ls 3 [(0, .ref (E 0)), (1, .int v1)] → W p l e rm_X10_compile s m args below meth c H locs 1 8 (MQ below (QI (LM ++ X) Y D E s.heap.size o) args s 1 8 (AF E (LM ++ X).length s.heap.size)) (F0 m 92 ls []) := by
  intro v1 σ H locs ls h hP hS hl
  unfold f_X10_compile_92 at h
  obtain ⟨hC, hb, hml, hr, hlk, hD, hSW⟩ := id hF
  have hx := hC.1
  refine lv_aload_n hx hb dX10_compile_92 rfl (lv_at hl 0 rfl) ?_
  refine lv_iconst (v := 0) hx hb dX10_compile_93 (by decide) ?_
  refine pf_X10_143 hX hC hb hP hD hS dX10_compile_94 (fun H locs σ1 eσ1 hP hS => ?_)
  have h := of_lt h eσ1
  refine lv_iload_n hx hb dX10_compile_97 rfl (lv_at hl 1 rfl) ?_
  exact x_iret hF hP hS h dX10_compile_98

def f_X10_compile_58 (v1 : Int32) (s0 : Int32) (σ : Sta) : Option (Int32 × Sta) :=
  bnc (f_X10_must s0 7 (gI σ 3) σ) (fun _ σ2 =>
    bnc (f_X10_explore σ2) (fun _ σ13 =>
      f_X10_compile_92 v1 σ13) (fun X15 σ17 =>
      lt (X15.1) (fun x18 =>
      lt (sI σ17 35 X15.2) (fun σ19 =>
      bnd (f_X10_clearProgram σ19) (fun _ σ21 =>
      f_X10_compile_92 x18 σ21))))) (fun X4 σ6 =>
    lt (X4.1) (fun x7 =>
    lt (sI σ6 35 X4.2) (fun σ8 =>
    bnd (f_X10_clearProgram σ8) (fun _ σ10 =>
    f_X10_compile_92 x7 σ10))))
set_option maxHeartbeats 4000000 in
set_option maxRecDepth 100000 in
theorem t_X10_compile_58 {l : Launch} {D : va_G} {Y : CYs} {E : Nat → Nat} {X : List Dsc} (hX : Lok (LM ++ X)) {p : Program} {e : Env} {s : State} {m : MethodId} {args : Array Value} {below : List Frame} {meth : Method} {c : Code} (hF : Fr p s m args meth c RX10 cX10_compile 3 (some .int) D Y E (LM ++ X)) {o : Int32 × Sta} (ht : l.stackTraces = false) (htab : c.exceptionTable.toList = tableOf [(20, 71, 74, 222)]) : ∀ (v1 : Int32) (s0 : Int32) (σ : Sta) (H : Heap) (locs : List Loc) (ls : Array Slot), f_X10_compile_58 v1 s0 σ = some o → va_P D vwCl (wd Y E σ 0 (LM ++ X)) H → va_S (AF E (LM ++ X).length s.heap.size) s.heap H locs → lv_has ls 3 [(0, .ref (E 0)), (1, .int v1)] → W p l e rm_X10_compile s m args below meth c H locs 0 0 (MQ below (QI (LM ++ X) Y D E s.heap.size o) args s 1 8 (AF E (LM ++ X).length s.heap.size)) (F0 m 58 ls [.int s0, .ref (E 0)]) := by
  intro v1 s0 σ H locs ls h hP hS hl
  unfold f_X10_compile_58 at h
  obtain ⟨hC, hb, hml, hr, hlk, hD, hSW⟩ := id hF
  have hx := hC.1
  refine lv_bipush (v := 7) hx hb dX10_compile_58 (by decide) ?_
  refine lv_aload_n hx hb dX10_compile_60 rfl (lv_at hl 0 rfl) ?_
  refine gf_X10_143 hC hb hP dX10_compile_61 ?_
  rcases of_bnc h with ⟨r1, σ2, g3, h⟩ | ⟨X4, σ6, g3, h⟩
  rotate_left
  · refine x_VTc (As := [.int s0, .int 7, .int (gI σ 3)]) (rest := []) hF hl hP hS (c_X10_must hX ht g3) (cw_X10_288 hC rfl rfl ⟨Nat.le_of_ble_eq_true rfl, Nat.le_of_ble_eq_true rfl⟩) (lm_0 X) rfl rfl rfl (Nat.le_of_ble_eq_true rfl) dX10_compile_64 ⟨Nat.le_of_ble_eq_true rfl, Nat.le_of_ble_eq_true rfl⟩ htab rfl rfl (by decide) (gw_t (tb7 (List.mem_of_getElem? (i := 4) rfl)) rfl) rfl (fun q5 H locs hP hS hWq5 => ?_)
    refine lv_astore_n (lv' := [(2, .ref q5), (0, .ref (E 0)), (1, .int v1)]) hx hb dX10_compile_74 rfl hl (by decide) rfl (fun ls hl => ?_)
    refine lv_aload_n hx hb dX10_compile_75 rfl (lv_at hl 0 rfl) ?_
    refine x_getWe hF hWq5 dX10_compile_76 ?_
    refine lv_topi (fun x7 ex7 => ?_)
    have h := of_lt h ex7
    refine lv_istore_n (lv' := [(1, .int x7), (2, .ref q5), (0, .ref (E 0))]) hx hb dX10_compile_79 rfl hl (by decide) rfl (fun ls hl => ?_)
    refine lv_aload_n hx hb dX10_compile_80 rfl (lv_at hl 2 rfl) ?_
    refine lv_aload_n hx hb dX10_compile_81 rfl (lv_at hl 1 rfl) ?_
    refine x_getWp hF hWq5 dX10_compile_82 ?_
    refine pf_X10_71 hX hC hb hP hD hS dX10_compile_85 (fun H locs σ8 eσ8 hP hS => ?_)
    have h := of_lt h eσ8
    refine lv_aload_n hx hb dX10_compile_88 rfl (lv_at hl 2 rfl) ?_
    obtain ⟨r9, σ10, g11, h⟩ := of_bnd h
    refine x_VV (As := []) (rest := []) hF hl hP hS (c_X10_clearProgram hX g11) (cw_X10_339 hC rfl rfl ⟨Nat.le_of_ble_eq_true rfl, Nat.le_of_ble_eq_true rfl⟩) (lm_0 X) rfl rfl rfl (Nat.le_of_ble_eq_true rfl) dX10_compile_89 ⟨Nat.le_of_ble_eq_true rfl, Nat.le_of_ble_eq_true rfl⟩ (fun H locs hP hS => ?_)
    exact t_X10_compile_92 hX  hF ht htab x7 σ10 _ _ _ h hP hS (lv_sub hl [2, 0] rfl)
  refine x_VV (As := [.int s0, .int 7, .int (gI σ 3)]) (rest := []) hF hl hP hS (c_X10_must hX ht g3) (cw_X10_288 hC rfl rfl ⟨Nat.le_of_ble_eq_true rfl, Nat.le_of_ble_eq_true rfl⟩) (lm_0 X) rfl rfl rfl (Nat.le_of_ble_eq_true rfl) dX10_compile_64 ⟨Nat.le_of_ble_eq_true rfl, Nat.le_of_ble_eq_true rfl⟩ (fun H locs hP hS => ?_)
  refine lv_aload_n hx hb dX10_compile_67 rfl (lv_at hl 0 rfl) ?_
  rcases of_bnc h with ⟨r12, σ13, g14, h⟩ | ⟨X15, σ17, g14, h⟩
  rotate_left
  · refine x_VTc (As := []) (rest := []) hF hl hP hS (c_X10_explore hX ht g14) (cw_X10_345 hC rfl rfl ⟨Nat.le_of_ble_eq_true rfl, Nat.le_of_ble_eq_true rfl⟩) (lm_0 X) rfl rfl rfl (Nat.le_of_ble_eq_true rfl) dX10_compile_68 ⟨Nat.le_of_ble_eq_true rfl, Nat.le_of_ble_eq_true rfl⟩ htab rfl rfl (by decide) (gw_t (tb7 (List.mem_of_getElem? (i := 4) rfl)) rfl) rfl (fun q16 H locs hP hS hWq16 => ?_)
    refine lv_astore_n (lv' := [(2, .ref q16), (0, .ref (E 0)), (1, .int v1)]) hx hb dX10_compile_74 rfl hl (by decide) rfl (fun ls hl => ?_)
    refine lv_aload_n hx hb dX10_compile_75 rfl (lv_at hl 0 rfl) ?_
    refine x_getWe hF hWq16 dX10_compile_76 ?_
    refine lv_topi (fun x18 ex18 => ?_)
    have h := of_lt h ex18
    refine lv_istore_n (lv' := [(1, .int x18), (2, .ref q16), (0, .ref (E 0))]) hx hb dX10_compile_79 rfl hl (by decide) rfl (fun ls hl => ?_)
    refine lv_aload_n hx hb dX10_compile_80 rfl (lv_at hl 2 rfl) ?_
    refine lv_aload_n hx hb dX10_compile_81 rfl (lv_at hl 1 rfl) ?_
    refine x_getWp hF hWq16 dX10_compile_82 ?_
    refine pf_X10_71 hX hC hb hP hD hS dX10_compile_85 (fun H locs σ19 eσ19 hP hS => ?_)
    have h := of_lt h eσ19
    refine lv_aload_n hx hb dX10_compile_88 rfl (lv_at hl 2 rfl) ?_
    obtain ⟨r20, σ21, g22, h⟩ := of_bnd h
    refine x_VV (As := []) (rest := []) hF hl hP hS (c_X10_clearProgram hX g22) (cw_X10_339 hC rfl rfl ⟨Nat.le_of_ble_eq_true rfl, Nat.le_of_ble_eq_true rfl⟩) (lm_0 X) rfl rfl rfl (Nat.le_of_ble_eq_true rfl) dX10_compile_89 ⟨Nat.le_of_ble_eq_true rfl, Nat.le_of_ble_eq_true rfl⟩ (fun H locs hP hS => ?_)
    exact t_X10_compile_92 hX  hF ht htab x18 σ21 _ _ _ h hP hS (lv_sub hl [2, 0] rfl)
  refine x_VV (As := []) (rest := []) hF hl hP hS (c_X10_explore hX ht g14) (cw_X10_345 hC rfl rfl ⟨Nat.le_of_ble_eq_true rfl, Nat.le_of_ble_eq_true rfl⟩) (lm_0 X) rfl rfl rfl (Nat.le_of_ble_eq_true rfl) dX10_compile_68 ⟨Nat.le_of_ble_eq_true rfl, Nat.le_of_ble_eq_true rfl⟩ (fun H locs hP hS => ?_)
  refine lv_goto (tgt := 92) hx hb dX10_compile_71 (by decide) ?_
  refine W.widen (k := 1) (n := 8) (Nat.zero_le _) (Nat.zero_le _) ?_
  exact t_X10_compile_92 hX  hF ht htab v1 σ13 _ _ _ h hP hS (lv_sub hl [0, 1] rfl)

def f_X10_compile_57 (v1 : Int32) (σ : Sta) : Option (Int32 × Sta) :=
  f_X10_compile_58 v1 0 σ
set_option maxHeartbeats 4000000 in
set_option maxRecDepth 100000 in
theorem t_X10_compile_57 {l : Launch} {D : va_G} {Y : CYs} {E : Nat → Nat} {X : List Dsc} (hX : Lok (LM ++ X)) {p : Program} {e : Env} {s : State} {m : MethodId} {args : Array Value} {below : List Frame} {meth : Method} {c : Code} (hF : Fr p s m args meth c RX10 cX10_compile 3 (some .int) D Y E (LM ++ X)) {o : Int32 × Sta} (ht : l.stackTraces = false) (htab : c.exceptionTable.toList = tableOf [(20, 71, 74, 222)]) : ∀ (v1 : Int32) (σ : Sta) (H : Heap) (locs : List Loc) (ls : Array Slot), f_X10_compile_57 v1 σ = some o → va_P D vwCl (wd Y E σ 0 (LM ++ X)) H → va_S (AF E (LM ++ X).length s.heap.size) s.heap H locs → lv_has ls 3 [(0, .ref (E 0)), (1, .int v1)] → W p l e rm_X10_compile s m args below meth c H locs 0 0 (MQ below (QI (LM ++ X) Y D E s.heap.size o) args s 1 8 (AF E (LM ++ X).length s.heap.size)) (F0 m 57 ls [.ref (E 0)]) := by
  intro v1 σ H locs ls h hP hS hl
  unfold f_X10_compile_57 at h
  obtain ⟨hC, hb, hml, hr, hlk, hD, hSW⟩ := id hF
  have hx := hC.1
  refine lv_iconst (v := 0) hx hb dX10_compile_57 (by decide) ?_
  exact t_X10_compile_58 hX  hF ht htab v1 0 σ _ _ _ h hP hS (lv_sub hl [0, 1] rfl)

def f_X10_compile (σ : Sta) : Option (Int32 × Sta) :=
  lt (sI σ 0 0) (fun σ1 =>
  bnd (f_X10_cutTokens σ1) (fun _ σ3 =>
  bnd (f_X10_clearProgram σ3) (fun _ σ6 =>
  lt (sI σ6 35 (-1)) (fun σ8 =>
  lt (sI σ8 30 0) (fun σ9 =>
  bnc (f_X10_readAll σ9) (fun _ σ11 =>
    lt (sI σ11 30 1) (fun σ21 =>
    bnc (f_X10_readAll σ21) (fun _ σ23 =>
      if gI σ23 10 ≤ 0 then
        f_X10_compile_57 0 σ23
      else
        if gI σ23 19 ≤ 0 then
          f_X10_compile_57 0 σ23
        else
          f_X10_compile_58 0 1 σ23) (fun X25 σ27 =>
      lt (X25.1) (fun x28 =>
      lt (sI σ27 35 X25.2) (fun σ29 =>
      bnd (f_X10_clearProgram σ29) (fun _ σ31 =>
      f_X10_compile_92 x28 σ31)))))) (fun X13 σ15 =>
    lt (X13.1) (fun x16 =>
    lt (sI σ15 35 X13.2) (fun σ17 =>
    bnd (f_X10_clearProgram σ17) (fun _ σ19 =>
    f_X10_compile_92 x16 σ19)))))))))
set_option maxHeartbeats 4000000 in
set_option maxRecDepth 100000 in
theorem c_X10_compile {l : Launch} {D : va_G} {Y : CYs} {E : Nat → Nat} {X : List Dsc} (hX : Lok (LM ++ X)) (ht : l.stackTraces = false) {σ : Sta} {o : Int32 × Sta} (h : f_X10_compile σ = some o) : ∀ sz, Met l yX10_compile (Cond.codeWith yX10_compile cX10_compile 3 (some .int) [(20, 71, 74, 222)] :: gW) rm_X10_compile (PcC (LM ++ X) Y D E σ sz [.ref (E 0)]) (QI (LM ++ X) Y D E sz o) 1 8 (AF E (LM ++ X).length sz) := by
  refine Met_ofH (Qc := fun sz => QI (LM ++ X) Y D E sz o) (by decide) (Nat.le_of_ble_eq_true rfl) (fun p e s m args below meth c hF hP htab ls hl => ?_)
  have hS : va_S (AF E (LM ++ X).length s.heap.size) s.heap s.heap [] := va_S.rf
  have hl : lv_has ls 3 [(0, .ref (E 0))] := hl
  show W p l e rm_X10_compile s m args below meth c s.heap [] 0 0 (MQ below (QI (LM ++ X) Y D E s.heap.size o) args s 1 8 (AF E (LM ++ X).length s.heap.size)) (F0 m 0 ls [])
  unfold f_X10_compile at h
  obtain ⟨hC, hb, hml, hr, hlk, hD, hSW⟩ := id hF
  have hx := hC.1
  refine lv_aload_n hx hb dX10_compile_0 rfl (lv_at hl 0 rfl) ?_
  refine lv_iconst (v := 0) hx hb dX10_compile_1 (by decide) ?_
  refine pf_X10_140 hX hC hb hP hD hS dX10_compile_2 (fun H locs σ1 eσ1 hP hS => ?_)
  have h := of_lt h eσ1
  refine lv_aload_n hx hb dX10_compile_5 rfl (lv_at hl 0 rfl) ?_
  obtain ⟨r2, σ3, g4, h⟩ := of_bnd h
  refine x_VV (As := []) (rest := []) hF hl hP hS (c_X10_cutTokens hX g4) (cw_X10_336 hC rfl rfl ⟨Nat.le_of_ble_eq_true rfl, Nat.le_of_ble_eq_true rfl⟩) (lm_0 X) rfl rfl rfl (Nat.le_of_ble_eq_true rfl) dX10_compile_6 ⟨Nat.le_of_ble_eq_true rfl, Nat.le_of_ble_eq_true rfl⟩ (fun H locs hP hS => ?_)
  refine lv_aload_n hx hb dX10_compile_9 rfl (lv_at hl 0 rfl) ?_
  obtain ⟨r5, σ6, g7, h⟩ := of_bnd h
  refine x_VV (As := []) (rest := []) hF hl hP hS (c_X10_clearProgram hX g7) (cw_X10_339 hC rfl rfl ⟨Nat.le_of_ble_eq_true rfl, Nat.le_of_ble_eq_true rfl⟩) (lm_0 X) rfl rfl rfl (Nat.le_of_ble_eq_true rfl) dX10_compile_10 ⟨Nat.le_of_ble_eq_true rfl, Nat.le_of_ble_eq_true rfl⟩ (fun H locs hP hS => ?_)
  refine lv_aload_n hx hb dX10_compile_13 rfl (lv_at hl 0 rfl) ?_
  refine lv_iconst (v := -1) hx hb dX10_compile_14 (by decide) ?_
  refine pf_X10_71 hX hC hb hP hD hS dX10_compile_15 (fun H locs σ8 eσ8 hP hS => ?_)
  have h := of_lt h eσ8
  refine lv_iconst (v := 0) hx hb dX10_compile_18 (by decide) ?_
  refine lv_istore_n (lv' := [(1, .int 0), (0, .ref (E 0))]) hx hb dX10_compile_19 rfl hl (by decide) rfl (fun ls hl => ?_)
  refine lv_aload_n hx hb dX10_compile_20 rfl (lv_at hl 1 rfl) ?_
  refine lv_iconst (v := 0) hx hb dX10_compile_21 (by decide) ?_
  refine pf_X10_227 hX hC hb hP hD hS (Or.inl rfl) dX10_compile_22 (fun H locs σ9 eσ9 hP hS => ?_)
  have h := of_lt h eσ9
  refine lv_aload_n hx hb dX10_compile_25 rfl (lv_at hl 1 rfl) ?_
  rcases of_bnc h with ⟨r10, σ11, g12, h⟩ | ⟨X13, σ15, g12, h⟩
  rotate_left
  · refine x_VTc (As := []) (rest := []) hF hl hP hS (c_X10_readAll hX ht g12) (cw_X10_342 hC rfl rfl ⟨Nat.le_of_ble_eq_true rfl, Nat.le_of_ble_eq_true rfl⟩) (lm_0 X) rfl rfl rfl (Nat.le_of_ble_eq_true rfl) dX10_compile_26 ⟨Nat.le_of_ble_eq_true rfl, Nat.le_of_ble_eq_true rfl⟩ htab rfl rfl (by decide) (gw_t (tb7 (List.mem_of_getElem? (i := 4) rfl)) rfl) rfl (fun q14 H locs hP hS hWq14 => ?_)
    refine lv_astore_n (lv' := [(2, .ref q14), (1, .int 0), (0, .ref (E 0))]) hx hb dX10_compile_74 rfl hl (by decide) rfl (fun ls hl => ?_)
    refine lv_aload_n hx hb dX10_compile_75 rfl (lv_at hl 0 rfl) ?_
    refine x_getWe hF hWq14 dX10_compile_76 ?_
    refine lv_topi (fun x16 ex16 => ?_)
    have h := of_lt h ex16
    refine lv_istore_n (lv' := [(1, .int x16), (2, .ref q14), (0, .ref (E 0))]) hx hb dX10_compile_79 rfl hl (by decide) rfl (fun ls hl => ?_)
    refine lv_aload_n hx hb dX10_compile_80 rfl (lv_at hl 2 rfl) ?_
    refine lv_aload_n hx hb dX10_compile_81 rfl (lv_at hl 1 rfl) ?_
    refine x_getWp hF hWq14 dX10_compile_82 ?_
    refine pf_X10_71 hX hC hb hP hD hS dX10_compile_85 (fun H locs σ17 eσ17 hP hS => ?_)
    have h := of_lt h eσ17
    refine lv_aload_n hx hb dX10_compile_88 rfl (lv_at hl 2 rfl) ?_
    obtain ⟨r18, σ19, g20, h⟩ := of_bnd h
    refine x_VV (As := []) (rest := []) hF hl hP hS (c_X10_clearProgram hX g20) (cw_X10_339 hC rfl rfl ⟨Nat.le_of_ble_eq_true rfl, Nat.le_of_ble_eq_true rfl⟩) (lm_0 X) rfl rfl rfl (Nat.le_of_ble_eq_true rfl) dX10_compile_89 ⟨Nat.le_of_ble_eq_true rfl, Nat.le_of_ble_eq_true rfl⟩ (fun H locs hP hS => ?_)
    exact t_X10_compile_92 hX  hF ht htab x16 σ19 _ _ _ h hP hS (lv_sub hl [2, 0] rfl)
  refine x_VV (As := []) (rest := []) hF hl hP hS (c_X10_readAll hX ht g12) (cw_X10_342 hC rfl rfl ⟨Nat.le_of_ble_eq_true rfl, Nat.le_of_ble_eq_true rfl⟩) (lm_0 X) rfl rfl rfl (Nat.le_of_ble_eq_true rfl) dX10_compile_26 ⟨Nat.le_of_ble_eq_true rfl, Nat.le_of_ble_eq_true rfl⟩ (fun H locs hP hS => ?_)
  refine lv_aload_n hx hb dX10_compile_29 rfl (lv_at hl 1 rfl) ?_
  refine lv_iconst (v := 1) hx hb dX10_compile_30 (by decide) ?_
  refine pf_X10_227 hX hC hb hP hD hS (Or.inr rfl) dX10_compile_31 (fun H locs σ21 eσ21 hP hS => ?_)
  have h := of_lt h eσ21
  refine lv_aload_n hx hb dX10_compile_34 rfl (lv_at hl 1 rfl) ?_
  rcases of_bnc h with ⟨r22, σ23, g24, h⟩ | ⟨X25, σ27, g24, h⟩
  rotate_left
  · refine x_VTc (As := []) (rest := []) hF hl hP hS (c_X10_readAll hX ht g24) (cw_X10_342 hC rfl rfl ⟨Nat.le_of_ble_eq_true rfl, Nat.le_of_ble_eq_true rfl⟩) (lm_0 X) rfl rfl rfl (Nat.le_of_ble_eq_true rfl) dX10_compile_35 ⟨Nat.le_of_ble_eq_true rfl, Nat.le_of_ble_eq_true rfl⟩ htab rfl rfl (by decide) (gw_t (tb7 (List.mem_of_getElem? (i := 4) rfl)) rfl) rfl (fun q26 H locs hP hS hWq26 => ?_)
    refine lv_astore_n (lv' := [(2, .ref q26), (1, .int 0), (0, .ref (E 0))]) hx hb dX10_compile_74 rfl hl (by decide) rfl (fun ls hl => ?_)
    refine lv_aload_n hx hb dX10_compile_75 rfl (lv_at hl 0 rfl) ?_
    refine x_getWe hF hWq26 dX10_compile_76 ?_
    refine lv_topi (fun x28 ex28 => ?_)
    have h := of_lt h ex28
    refine lv_istore_n (lv' := [(1, .int x28), (2, .ref q26), (0, .ref (E 0))]) hx hb dX10_compile_79 rfl hl (by decide) rfl (fun ls hl => ?_)
    refine lv_aload_n hx hb dX10_compile_80 rfl (lv_at hl 2 rfl) ?_
    refine lv_aload_n hx hb dX10_compile_81 rfl (lv_at hl 1 rfl) ?_
    refine x_getWp hF hWq26 dX10_compile_82 ?_
    refine pf_X10_71 hX hC hb hP hD hS dX10_compile_85 (fun H locs σ29 eσ29 hP hS => ?_)
    have h := of_lt h eσ29
    refine lv_aload_n hx hb dX10_compile_88 rfl (lv_at hl 2 rfl) ?_
    obtain ⟨r30, σ31, g32, h⟩ := of_bnd h
    refine x_VV (As := []) (rest := []) hF hl hP hS (c_X10_clearProgram hX g32) (cw_X10_339 hC rfl rfl ⟨Nat.le_of_ble_eq_true rfl, Nat.le_of_ble_eq_true rfl⟩) (lm_0 X) rfl rfl rfl (Nat.le_of_ble_eq_true rfl) dX10_compile_89 ⟨Nat.le_of_ble_eq_true rfl, Nat.le_of_ble_eq_true rfl⟩ (fun H locs hP hS => ?_)
    exact t_X10_compile_92 hX  hF ht htab x28 σ31 _ _ _ h hP hS (lv_sub hl [2, 0] rfl)
  refine x_VV (As := []) (rest := []) hF hl hP hS (c_X10_readAll hX ht g24) (cw_X10_342 hC rfl rfl ⟨Nat.le_of_ble_eq_true rfl, Nat.le_of_ble_eq_true rfl⟩) (lm_0 X) rfl rfl rfl (Nat.le_of_ble_eq_true rfl) dX10_compile_35 ⟨Nat.le_of_ble_eq_true rfl, Nat.le_of_ble_eq_true rfl⟩ (fun H locs hP hS => ?_)
  refine lv_aload_n hx hb dX10_compile_38 rfl (lv_at hl 1 rfl) ?_
  refine lv_aload_n hx hb dX10_compile_39 rfl (lv_at hl 1 rfl) ?_
  refine gf_X10_198 hC hb hP dX10_compile_40 ?_
  refine lv_if_le (tgt := 57) hx hb dX10_compile_43 (by decide) (fun c33 => ?_) (fun c33 => ?_)
  · have h := of_t h c33
    exact t_X10_compile_57 hX  hF ht htab 0 σ23 _ _ _ h hP hS (lv_sub hl [1, 0] rfl)
  · have h := of_f h c33
    refine lv_aload_n hx hb dX10_compile_46 rfl (lv_at hl 1 rfl) ?_
    refine gf_X10_207 hC hb hP dX10_compile_47 ?_
    refine lv_if_le (tgt := 57) hx hb dX10_compile_50 (by decide) (fun c34 => ?_) (fun c34 => ?_)
    · have h := of_t h c34
      exact t_X10_compile_57 hX  hF ht htab 0 σ23 _ _ _ h hP hS (lv_sub hl [1, 0] rfl)
    · have h := of_f h c34
      refine lv_iconst (v := 1) hx hb dX10_compile_53 (by decide) ?_
      refine lv_goto (tgt := 58) hx hb dX10_compile_54 (by decide) ?_
      exact t_X10_compile_58 hX  hF ht htab 0 1 σ23 _ _ _ h hP hS (lv_sub hl [1, 0] rfl)

abbrev rm_X10_errorAt : Room := { frames := 0, cells := 0, slots := 0, locals := 0 }
def f_X10_errorAt (σ : Sta) : Option (Int32 × Sta) :=
  lt (sI σ 0 0) (fun σ1 =>
  some (gI σ1 35, σ1))
set_option maxHeartbeats 4000000 in
set_option maxRecDepth 100000 in
theorem c_X10_errorAt {l : Launch} {D : va_G} {Y : CYs} {E : Nat → Nat} {X : List Dsc} (hX : Lok (LM ++ X)) {σ : Sta} {o : Int32 × Sta} (h : f_X10_errorAt σ = some o) : MI l yX10_errorAt (Cond.code yX10_errorAt cX10_errorAt 1 (some .int) :: gW) rm_X10_errorAt (LM ++ X) Y D E [.ref (E 0)] σ o := by
  intro sz
  refine Met_of (Qc := fun sz => QI (LM ++ X) Y D E sz o) (by decide) (Nat.le_of_ble_eq_true rfl) (fun p e s m args below meth c hF hP ls hl => ?_) sz
  have hS : va_S (AF E (LM ++ X).length s.heap.size) s.heap s.heap [] := va_S.rf
  have hl : lv_has ls 1 [(0, .ref (E 0))] := hl
  show WI p l e rm_X10_errorAt s m args below meth c (LM ++ X) Y D E o s.heap [] (F0 m 0 ls [])
  unfold f_X10_errorAt at h
  obtain ⟨hC, hb, hml, hr, hlk, hD, hSW⟩ := id hF
  have hx := hC.1
  refine lv_aload_n hx hb dX10_errorAt_0 rfl (lv_at hl 0 rfl) ?_
  refine lv_iconst (v := 0) hx hb dX10_errorAt_1 (by decide) ?_
  refine pf_X10_140 hX hC hb hP hD hS dX10_errorAt_2 (fun H locs σ1 eσ1 hP hS => ?_)
  have h := of_lt h eσ1
  refine lv_aload_n hx hb dX10_errorAt_5 rfl (lv_at hl 0 rfl) ?_
  refine gf_X10_71 hC hb hP dX10_errorAt_6 ?_
  exact x_iret hF hP hS h dX10_errorAt_9

abbrev rm_X10_counted : Room := { frames := 0, cells := 0, slots := 0, locals := 0 }
def f_X10_counted (a1 : Int32) (σ : Sta) : Option (Int32 × Sta) :=
  if a1 = 0 then
    some (gI σ 10, σ)
  else if a1 = 1 then
    some (gI σ 15, σ)
  else if a1 = 2 then
    some (gI σ 19, σ)
  else if a1 = 3 then
    some (gI σ 37, σ)
  else if a1 = 4 then
    some (gI σ 47, σ)
  else 
    some (gI σ 3, σ)
set_option maxHeartbeats 4000000 in
set_option maxRecDepth 100000 in
theorem c_X10_counted {l : Launch} {D : va_G} {Y : CYs} {E : Nat → Nat} {X : List Dsc} (hX : Lok (LM ++ X)) {a1 : Int32} {σ : Sta} {o : Int32 × Sta} (h : f_X10_counted a1 σ = some o) : MI l yX10_counted (Cond.code yX10_counted cX10_counted 2 (some .int) :: gW) rm_X10_counted (LM ++ X) Y D E [.ref (E 0), .int a1] σ o := by
  intro sz
  refine Met_of (Qc := fun sz => QI (LM ++ X) Y D E sz o) (by decide) (Nat.le_of_ble_eq_true rfl) (fun p e s m args below meth c hF hP ls hl => ?_) sz
  have hS : va_S (AF E (LM ++ X).length s.heap.size) s.heap s.heap [] := va_S.rf
  have hl : lv_has ls 2 [(0, .ref (E 0)), (1, .int a1)] := hl
  show WI p l e rm_X10_counted s m args below meth c (LM ++ X) Y D E o s.heap [] (F0 m 0 ls [])
  unfold f_X10_counted at h
  obtain ⟨hC, hb, hml, hr, hlk, hD, hSW⟩ := id hF
  have hx := hC.1
  refine lv_iload_n hx hb dX10_counted_0 rfl (lv_at hl 1 rfl) ?_
  by_cases c1 : a1 = 0
  · have h := of_t h c1
    refine lv_tableIn (tgt := 36) hx hb dX10_counted_1 (by rw [c1]; try decide) (by rw [c1]; try decide) (by rw [c1]; try rfl) (by decide) ?_
    refine lv_aload_n hx hb dX10_counted_36 rfl (lv_at hl 0 rfl) ?_
    refine gf_X10_198 hC hb hP dX10_counted_37 ?_
    exact x_iret hF hP hS h dX10_counted_40
  · have h := of_f h c1
    by_cases c2 : a1 = 1
    · have h := of_t h c2
      refine lv_tableIn (tgt := 41) hx hb dX10_counted_1 (by rw [c2]; try decide) (by rw [c2]; try decide) (by rw [c2]; try rfl) (by decide) ?_
      refine lv_aload_n hx hb dX10_counted_41 rfl (lv_at hl 0 rfl) ?_
      refine gf_X10_201 hC hb hP dX10_counted_42 ?_
      exact x_iret hF hP hS h dX10_counted_45
    · have h := of_f h c2
      by_cases c3 : a1 = 2
      · have h := of_t h c3
        refine lv_tableIn (tgt := 46) hx hb dX10_counted_1 (by rw [c3]; try decide) (by rw [c3]; try decide) (by rw [c3]; try rfl) (by decide) ?_
        refine lv_aload_n hx hb dX10_counted_46 rfl (lv_at hl 0 rfl) ?_
        refine gf_X10_207 hC hb hP dX10_counted_47 ?_
        exact x_iret hF hP hS h dX10_counted_50
      · have h := of_f h c3
        by_cases c4 : a1 = 3
        · have h := of_t h c4
          refine lv_tableIn (tgt := 51) hx hb dX10_counted_1 (by rw [c4]; try decide) (by rw [c4]; try decide) (by rw [c4]; try rfl) (by decide) ?_
          refine lv_aload_n hx hb dX10_counted_51 rfl (lv_at hl 0 rfl) ?_
          refine gf_X10_213 hC hb hP dX10_counted_52 ?_
          exact x_iret hF hP hS h dX10_counted_55
        · have h := of_f h c4
          by_cases c5 : a1 = 4
          · have h := of_t h c5
            refine lv_tableIn (tgt := 56) hx hb dX10_counted_1 (by rw [c5]; try decide) (by rw [c5]; try decide) (by rw [c5]; try rfl) (by decide) ?_
            refine lv_aload_n hx hb dX10_counted_56 rfl (lv_at hl 0 rfl) ?_
            refine gf_X10_216 hC hb hP dX10_counted_57 ?_
            exact x_iret hF hP hS h dX10_counted_60
          · have h := of_f h c5
            refine lv_tableOut (tgt := 61) hx hb dX10_counted_1 (by have nc1 := lv_neT (a := 0) c1 (by decide); have nc2 := lv_neT (a := 1) c2 (by decide); have nc3 := lv_neT (a := 2) c3 (by decide); have nc4 := lv_neT (a := 3) c4 (by decide); have nc5 := lv_neT (a := 4) c5 (by decide); omega) (by decide) ?_
            refine lv_aload_n hx hb dX10_counted_61 rfl (lv_at hl 0 rfl) ?_
            refine gf_X10_143 hC hb hP dX10_counted_62 ?_
            exact x_iret hF hP hS h dX10_counted_65

abbrev rm_X10_count : Room := { frames := 1, cells := 0, slots := 0, locals := 25 }
def f_X10_count_30 (s0 : Int32) (σ : Sta) : Option (Int32 × Sta) :=
  some (s0, σ)
set_option maxHeartbeats 4000000 in
set_option maxRecDepth 100000 in
theorem t_X10_count_30 {l : Launch} {D : va_G} {Y : CYs} {E : Nat → Nat} {X : List Dsc} (hX : Lok (LM ++ X)) {p : Program} {e : Env} {s : State} {m : MethodId} {args : Array Value} {below : List Frame} {meth : Method} {c : Code} (hF : Fr p s m args meth c RX10 cX10_count 2 (some .int) D Y E (LM ++ X)) {o : Int32 × Sta} : ∀ (s0 : Int32) (σ : Sta) (H : Heap) (locs : List Loc) (ls : Array Slot), f_X10_count_30 s0 σ = some o → va_P D vwCl (wd Y E σ 0 (LM ++ X)) H → va_S (AF E (LM ++ X).length s.heap.size) s.heap H locs → lv_has ls 2 [] → WI p l e rm_X10_count s m args below meth c (LM ++ X) Y D E o H locs (F0 m 30 ls [.int s0]) := by
  intro s0 σ H locs ls h hP hS hl
  unfold f_X10_count_30 at h
  obtain ⟨hC, hb, hml, hr, hlk, hD, hSW⟩ := id hF
  have hx := hC.1
  exact x_iret hF hP hS h dX10_count_30

def f_X10_count (a1 : Int32) (σ : Sta) : Option (Int32 × Sta) :=
  lt (sI σ 0 0) (fun σ1 =>
  bnd (f_X10_isIn a1.toInt64 0 5 σ1) (fun r2 σ3 =>
  if r2 = 0 then
    bnd (f_X10_fail 1 σ3) (fun r6 σ7 =>
    f_X10_count_30 r6 σ7)
  else
    bnd (f_X10_counted a1 σ3) (fun r9 σ10 =>
    f_X10_count_30 r9 σ10)))
set_option maxHeartbeats 4000000 in
set_option maxRecDepth 100000 in
theorem c_X10_count {l : Launch} {D : va_G} {Y : CYs} {E : Nat → Nat} {X : List Dsc} (hX : Lok (LM ++ X)) {a1 : Int32} {σ : Sta} {o : Int32 × Sta} (h : f_X10_count a1 σ = some o) : MI l yX10_count (Cond.code yX10_count cX10_count 2 (some .int) :: gW) rm_X10_count (LM ++ X) Y D E [.ref (E 0), .int a1] σ o := by
  intro sz
  refine Met_of (Qc := fun sz => QI (LM ++ X) Y D E sz o) (by decide) (Nat.le_of_ble_eq_true rfl) (fun p e s m args below meth c hF hP ls hl => ?_) sz
  have hS : va_S (AF E (LM ++ X).length s.heap.size) s.heap s.heap [] := va_S.rf
  have hl : lv_has ls 2 [(0, .ref (E 0)), (1, .int a1)] := hl
  show WI p l e rm_X10_count s m args below meth c (LM ++ X) Y D E o s.heap [] (F0 m 0 ls [])
  unfold f_X10_count at h
  obtain ⟨hC, hb, hml, hr, hlk, hD, hSW⟩ := id hF
  have hx := hC.1
  refine lv_aload_n hx hb dX10_count_0 rfl (lv_at hl 0 rfl) ?_
  refine lv_iconst (v := 0) hx hb dX10_count_1 (by decide) ?_
  refine pf_X10_140 hX hC hb hP hD hS dX10_count_2 (fun H locs σ1 eσ1 hP hS => ?_)
  have h := of_lt h eσ1
  refine lv_iload_n hx hb dX10_count_5 rfl (lv_at hl 1 rfl) ?_
  refine lv_i2l (v := a1.toInt64) hx hb dX10_count_6 rfl ?_
  refine lv_lconst (v := 0) hx hb dX10_count_7 (by decide) ?_
  refine lv_ldc2 (v := 5) hx hb hC.2.2.1 (hC.2.1 (Cond.constantLong RX10 354 5) (gw_t (tb7 (List.mem_of_getElem? (i := 212) rfl)) rfl)) dX10_count_8 ?_
  obtain ⟨r2, σ3, g4, h⟩ := of_bnd h
  refine x_SI (As := [.long a1.toInt64, .long 0, .long 5]) (rest := []) hF hl hP hS (c_X10_isIn hX g4) (cw_X10_154 hC rfl rfl ⟨Nat.le_of_ble_eq_true rfl, Nat.le_of_ble_eq_true rfl⟩) rfl rfl (Nat.le_of_ble_eq_true rfl) dX10_count_11 ⟨Nat.zero_le _, Nat.zero_le _⟩ (fun H locs hP hS => ?_)
  refine lv_if_eq (tgt := 25) hx hb dX10_count_14 (by decide) (fun c5 => ?_) (fun c5 => ?_)
  · have h := of_t h c5
    refine lv_aload_n hx hb dX10_count_25 rfl (lv_at hl 0 rfl) ?_
    refine lv_iconst (v := 1) hx hb dX10_count_26 (by decide) ?_
    obtain ⟨r6, σ7, g8, h⟩ := of_bnd h
    refine x_VI (As := [.int 1]) (rest := []) hF hl hP hS (c_X10_fail hX g8) (cw_X10_146 hC rfl rfl ⟨Nat.le_of_ble_eq_true rfl, Nat.le_of_ble_eq_true rfl⟩) (lm_0 X) rfl rfl rfl (Nat.le_of_ble_eq_true rfl) dX10_count_27 ⟨Nat.zero_le _, Nat.zero_le _⟩ (fun H locs hP hS => ?_)
    exact t_X10_count_30 hX  hF r6 σ7 _ _ _ h hP hS (lv_sub hl [] rfl)
  · have h := of_f h c5
    refine lv_aload_n hx hb dX10_count_17 rfl (lv_at hl 0 rfl) ?_
    refine lv_iload_n hx hb dX10_count_18 rfl (lv_at hl 1 rfl) ?_
    obtain ⟨r9, σ10, g11, h⟩ := of_bnd h
    refine x_VI (As := [.int a1]) (rest := []) hF hl hP hS (c_X10_counted hX g11) (cw_X10_356 hC rfl rfl ⟨Nat.le_of_ble_eq_true rfl, Nat.le_of_ble_eq_true rfl⟩) (lm_0 X) rfl rfl rfl (Nat.le_of_ble_eq_true rfl) dX10_count_19 ⟨Nat.zero_le _, Nat.zero_le _⟩ (fun H locs hP hS => ?_)
    refine lv_goto (tgt := 30) hx hb dX10_count_22 (by decide) ?_
    exact t_X10_count_30 hX  hF r9 σ10 _ _ _ h hP hS (lv_sub hl [] rfl)

abbrev rm_X10_isState : Room := { frames := 1, cells := 0, slots := 0, locals := 25 }
def f_X10_isState (a1 : Int32) (σ : Sta) : Option (Int32 × Sta) :=
  bnd (f_X10_isIn a1.toInt64 0 (((gI σ 37) - 1).toInt64) σ) (fun r1 σ2 =>
  if ¬ (r1 = 0 ∨ r1 = 1) then none else (
  some (r1, σ2)))
set_option maxHeartbeats 4000000 in
set_option maxRecDepth 100000 in
theorem c_X10_isState {l : Launch} {D : va_G} {Y : CYs} {E : Nat → Nat} {X : List Dsc} (hX : Lok (LM ++ X)) {a1 : Int32} {σ : Sta} {o : Int32 × Sta} (h : f_X10_isState a1 σ = some o) : MI l yX10_isState (Cond.code yX10_isState cX10_isState 2 (some .boolean) :: gW) rm_X10_isState (LM ++ X) Y D E [.ref (E 0), .int a1] σ o := by
  intro sz
  refine Met_of (Qc := fun sz => QI (LM ++ X) Y D E sz o) (by decide) (Nat.le_of_ble_eq_true rfl) (fun p e s m args below meth c hF hP ls hl => ?_) sz
  have hS : va_S (AF E (LM ++ X).length s.heap.size) s.heap s.heap [] := va_S.rf
  have hl : lv_has ls 2 [(0, .ref (E 0)), (1, .int a1)] := hl
  show WI p l e rm_X10_isState s m args below meth c (LM ++ X) Y D E o s.heap [] (F0 m 0 ls [])
  unfold f_X10_isState at h
  obtain ⟨hC, hb, hml, hr, hlk, hD, hSW⟩ := id hF
  have hx := hC.1
  refine lv_iload_n hx hb dX10_isState_0 rfl (lv_at hl 1 rfl) ?_
  refine lv_i2l (v := a1.toInt64) hx hb dX10_isState_1 rfl ?_
  refine lv_lconst (v := 0) hx hb dX10_isState_2 (by decide) ?_
  refine lv_aload_n hx hb dX10_isState_3 rfl (lv_at hl 0 rfl) ?_
  refine gf_X10_213 hC hb hP dX10_isState_4 ?_
  refine lv_iconst (v := 1) hx hb dX10_isState_7 (by decide) ?_
  refine lv_isub hx hb dX10_isState_8 ?_
  refine lv_i2l (v := ((gI σ 37) - 1).toInt64) hx hb dX10_isState_9 rfl ?_
  obtain ⟨r1, σ2, g3, h⟩ := of_bnd h
  refine x_SI (As := [.long a1.toInt64, .long 0, .long (((gI σ 37) - 1).toInt64)]) (rest := []) hF hl hP hS (c_X10_isIn hX g3) (cw_X10_154 hC rfl rfl ⟨Nat.le_of_ble_eq_true rfl, Nat.le_of_ble_eq_true rfl⟩) rfl rfl (Nat.le_of_ble_eq_true rfl) dX10_isState_10 ⟨Nat.zero_le _, Nat.zero_le _⟩ (fun H locs hP hS => ?_)
  obtain ⟨g4, h⟩ := of_gd h
  exact x_zret hF hP hS (zb g4) h dX10_isState_13

abbrev rm_X10_test : Room := { frames := 112, cells := 1, slots := 8, locals := 4224 }
def f_X10_test_130 (v2 : Int32) (v3 : Int32) (σ : Sta) : Option (Int32 × Sta) :=
  lt (sI σ 26 v3) (fun σ1 =>
  lt (sI σ1 3 0) (fun σ2 =>
  some (v2, σ2)))
set_option maxHeartbeats 4000000 in
set_option maxRecDepth 100000 in
theorem t_X10_test_130 {l : Launch} {D : va_G} {Y : CYs} {E : Nat → Nat} {X : List Dsc} (hX : Lok (LM ++ X)) {p : Program} {e : Env} {s : State} {m : MethodId} {args : Array Value} {below : List Frame} {meth : Method} {c : Code} (hF : Fr p s m args meth c RX10 cX10_test 5 (some .int) D Y E (LM ++ X)) {o : Int32 × Sta} (ht : l.stackTraces = false) (htab : c.exceptionTable.toList = tableOf [(40, 110, 113, 222)]) : ∀ (v2 : Int32) (v3 : Int32) (σ : Sta) (H : Heap) (locs : List Loc) (ls : Array Slot), f_X10_test_130 v2 v3 σ = some o → va_P D vwCl (wd Y E σ 0 (LM ++ X)) H → va_S (AF E (LM ++ X).length s.heap.size) s.heap H locs → lv_has ls 5 [(0, .ref (E 0)), (2, .int v2), (3, .int v3)] → W p l e rm_X10_test s m args below meth c H locs 1 8 (MQ below (QI (LM ++ X) Y D E s.heap.size o) args s 1 8 (AF E (LM ++ X).length s.heap.size)) (F0 m 130 ls []) := by
  intro v2 v3 σ H locs ls h hP hS hl
  unfold f_X10_test_130 at h
  obtain ⟨hC, hb, hml, hr, hlk, hD, hSW⟩ := id hF
  have hx := hC.1
  refine lv_aload_n hx hb dX10_test_130 rfl (lv_at hl 0 rfl) ?_
  refine lv_iload_n hx hb dX10_test_131 rfl (lv_at hl 2 rfl) ?_
  refine pf_X10_210 hX hC hb hP hD hS dX10_test_132 (fun H locs σ1 eσ1 hP hS => ?_)
  have h := of_lt h eσ1
  refine lv_aload_n hx hb dX10_test_135 rfl (lv_at hl 0 rfl) ?_
  refine lv_iconst (v := 0) hx hb dX10_test_136 (by decide) ?_
  refine pf_X10_143 hX hC hb hP hD hS dX10_test_137 (fun H locs σ2 eσ2 hP hS => ?_)
  have h := of_lt h eσ2
  refine lv_iload_n hx hb dX10_test_140 rfl (lv_at hl 1 rfl) ?_
  exact x_iret hF hP hS h dX10_test_141

def f_X10_test_61 (k43 : Int32 → Int32 → Int32 → Int32 → Sta → Option (Int32 × Sta)) (v1 : Int32) (v2 : Int32) (v3 : Int32) (v4 : Int32) (s0 : Int32) (σ : Sta) : Option (Int32 × Sta) :=
  if ¬ (s0 = 0 ∨ s0 = 1) then none else (
  lt (sI σ 30 s0) (fun σ2 =>
  lt (sI σ2 29 0) (fun σ3 =>
  lt (sI σ3 31 0) (fun σ4 =>
  bnc (f_X10_whole σ4) (fun r5 σ6 =>
    bnd (f_X10_is 202 σ6) (fun r13 σ14 =>
    if r13 = 0 then
      bnr (f_X10_wrong σ14) (fun X18 =>
        lt (X18.1) (fun x21 =>
        lt (sI σ14 35 X18.2) (fun σ22 =>
        f_X10_test_130 x21 v3 σ22)))
    else
      lt (v4 + 1) (fun x17 =>
      k43 v1 v2 v3 x17 σ14))) (fun X8 σ10 =>
    lt (X8.1) (fun x11 =>
    lt (sI σ10 35 X8.2) (fun σ12 =>
    f_X10_test_130 x11 v3 σ12)))))))
set_option maxHeartbeats 4000000 in
set_option maxRecDepth 100000 in
theorem t_X10_test_61 {l : Launch} {D : va_G} {Y : CYs} {E : Nat → Nat} {X : List Dsc} (hX : Lok (LM ++ X)) {p : Program} {e : Env} {s : State} {m : MethodId} {args : Array Value} {below : List Frame} {meth : Method} {c : Code} (hF : Fr p s m args meth c RX10 cX10_test 5 (some .int) D Y E (LM ++ X)) {o : Int32 × Sta} (ht : l.stackTraces = false) (htab : c.exceptionTable.toList = tableOf [(40, 110, 113, 222)]) (k43 : Int32 → Int32 → Int32 → Int32 → Sta → Option (Int32 × Sta)) (hk43 : ∀ (v1 : Int32) (v2 : Int32) (v3 : Int32) (v4 : Int32) (σ : Sta) (H : Heap) (locs : List Loc) (ls : Array Slot), k43 v1 v2 v3 v4 σ = some o → va_P D vwCl (wd Y E σ 0 (LM ++ X)) H → va_S (AF E (LM ++ X).length s.heap.size) s.heap H locs → lv_has ls 5 [(0, .ref (E 0)), (1, .int v1), (2, .int v2), (3, .int v3), (4, .int v4)] → W p l e rm_X10_test s m args below meth c H locs 0 0 (MQ below (QI (LM ++ X) Y D E s.heap.size o) args s 1 8 (AF E (LM ++ X).length s.heap.size)) (F0 m 43 ls [])) : ∀ (v1 : Int32) (v2 : Int32) (v3 : Int32) (v4 : Int32) (s0 : Int32) (σ : Sta) (H : Heap) (locs : List Loc) (ls : Array Slot), f_X10_test_61 k43 v1 v2 v3 v4 s0 σ = some o → va_P D vwCl (wd Y E σ 0 (LM ++ X)) H → va_S (AF E (LM ++ X).length s.heap.size) s.heap H locs → lv_has ls 5 [(0, .ref (E 0)), (1, .int v1), (2, .int v2), (3, .int v3), (4, .int v4)] → W p l e rm_X10_test s m args below meth c H locs 0 0 (MQ below (QI (LM ++ X) Y D E s.heap.size o) args s 1 8 (AF E (LM ++ X).length s.heap.size)) (F0 m 61 ls [.int s0, .ref (E 0)]) := by
  intro v1 v2 v3 v4 s0 σ H locs ls h hP hS hl
  unfold f_X10_test_61 at h
  obtain ⟨hC, hb, hml, hr, hlk, hD, hSW⟩ := id hF
  have hx := hC.1
  obtain ⟨g1, h⟩ := of_gd h
  refine pf_X10_227 hX hC hb hP hD hS (Decidable.not_not.mp g1) dX10_test_61 (fun H locs σ2 eσ2 hP hS => ?_)
  have h := of_lt h eσ2
  refine lv_aload_n hx hb dX10_test_64 rfl (lv_at hl 0 rfl) ?_
  refine lv_iconst (v := 0) hx hb dX10_test_65 (by decide) ?_
  refine pf_X10_219 hX hC hb hP hD hS dX10_test_66 (fun H locs σ3 eσ3 hP hS => ?_)
  have h := of_lt h eσ3
  refine lv_aload_n hx hb dX10_test_69 rfl (lv_at hl 0 rfl) ?_
  refine lv_iconst (v := 0) hx hb dX10_test_70 (by decide) ?_
  refine pf_X10_244 hX hC hb hP hD hS dX10_test_71 (fun H locs σ4 eσ4 hP hS => ?_)
  have h := of_lt h eσ4
  refine lv_aload_n hx hb dX10_test_74 rfl (lv_at hl 0 rfl) ?_
  rcases of_bnc h with ⟨r5, σ6, g7, h⟩ | ⟨X8, σ10, g7, h⟩
  rotate_left
  · refine x_VTc (As := []) (rest := []) hF hl hP hS (c_X10_whole hX ht g7) (cw_X10_304 hC rfl rfl ⟨Nat.le_of_ble_eq_true rfl, Nat.le_of_ble_eq_true rfl⟩) (lm_0 X) rfl rfl rfl (Nat.le_of_ble_eq_true rfl) dX10_test_75 ⟨Nat.le_of_ble_eq_true rfl, Nat.le_of_ble_eq_true rfl⟩ htab rfl rfl (by decide) (gw_t (tb7 (List.mem_of_getElem? (i := 4) rfl)) rfl) rfl (fun q9 H locs hP hS hWq9 => ?_)
    refine lv_astore (lv' := [(4, .ref q9), (0, .ref (E 0)), (1, .int v1), (2, .int v2), (3, .int v3)]) hx hb dX10_test_113 hl (by decide) rfl (fun ls hl => ?_)
    refine lv_aload hx hb dX10_test_115 (lv_at hl 0 rfl) ?_
    refine x_getWe hF hWq9 dX10_test_117 ?_
    refine lv_topi (fun x11 ex11 => ?_)
    have h := of_lt h ex11
    refine lv_istore_n (lv' := [(2, .int x11), (4, .ref q9), (0, .ref (E 0)), (1, .int v1), (3, .int v3)]) hx hb dX10_test_120 rfl hl (by decide) rfl (fun ls hl => ?_)
    refine lv_aload_n hx hb dX10_test_121 rfl (lv_at hl 2 rfl) ?_
    refine lv_aload hx hb dX10_test_122 (lv_at hl 1 rfl) ?_
    refine x_getWp hF hWq9 dX10_test_124 ?_
    refine pf_X10_71 hX hC hb hP hD hS dX10_test_127 (fun H locs σ12 eσ12 hP hS => ?_)
    have h := of_lt h eσ12
    exact t_X10_test_130 hX  hF ht htab x11 v3 σ12 _ _ _ h hP hS (lv_sub hl [2, 0, 4] rfl)
  refine x_VI (As := []) (rest := []) hF hl hP hS (c_X10_whole hX ht g7) (cw_X10_304 hC rfl rfl ⟨Nat.le_of_ble_eq_true rfl, Nat.le_of_ble_eq_true rfl⟩) (lm_0 X) rfl rfl rfl (Nat.le_of_ble_eq_true rfl) dX10_test_75 ⟨Nat.le_of_ble_eq_true rfl, Nat.le_of_ble_eq_true rfl⟩ (fun H locs hP hS => ?_)
  refine lv_pop hx hb dX10_test_78 rfl ?_
  refine lv_aload_n hx hb dX10_test_79 rfl (lv_at hl 0 rfl) ?_
  refine lv_sipush (v := 202) hx hb dX10_test_80 (by decide) ?_
  obtain ⟨r13, σ14, g15, h⟩ := of_bnd h
  refine x_VI (As := [.int 202]) (rest := []) hF hl hP hS (c_X10_is hX g15) (cw_X10_238 hC rfl rfl ⟨Nat.le_of_ble_eq_true rfl, Nat.le_of_ble_eq_true rfl⟩) (lm_0 X) rfl rfl rfl (Nat.le_of_ble_eq_true rfl) dX10_test_83 ⟨Nat.le_of_ble_eq_true rfl, Nat.le_of_ble_eq_true rfl⟩ (fun H locs hP hS => ?_)
  refine lv_if_ne (tgt := 94) hx hb dX10_test_86 (by decide) (fun c16 => ?_) (fun c16 => ?_)
  · have h := of_f h c16
    obtain ⟨x17, ex17⟩ : ∃ y : Int32, y = v4 + 1 := ⟨_, rfl⟩
    have h := of_lt h ex17
    refine lv_iinc (v := x17) (lv' := [(4, .int x17), (0, .ref (E 0)), (1, .int v1), (2, .int v2), (3, .int v3)]) hx hb dX10_test_94 hl (k := 4) rfl (by rw [ex17]; rfl) (by decide) rfl (fun ls hl => ?_)
    refine lv_goto (tgt := 43) hx hb dX10_test_97 (by decide) ?_
    exact hk43 v1 v2 v3 x17 σ14 _ _ _ h hP hS (lv_sub hl [1, 2, 3, 4, 0] rfl)
  · have h := of_t h c16
    refine lv_aload_n hx hb dX10_test_89 rfl (lv_at hl 0 rfl) ?_
    obtain ⟨X18, g19, h⟩ := of_bnr h
    refine x_VR (As := []) (rest := []) hF hl hP hS (c_X10_wrong hX ht g19) (cw_X10_234 hC rfl rfl ⟨Nat.le_of_ble_eq_true rfl, Nat.le_of_ble_eq_true rfl⟩) (lm_0 X) rfl rfl rfl (Nat.le_of_ble_eq_true rfl) dX10_test_90 ⟨Nat.le_of_ble_eq_true rfl, Nat.le_of_ble_eq_true rfl⟩ (fun wa20 H locs hP hS hWwa20 => ?_)
    refine x_throwC hF hP hS hWwa20 dX10_test_93 htab rfl rfl (by decide) (gw_t (tb7 (List.mem_of_getElem? (i := 4) rfl)) rfl) rfl ?_
    refine lv_astore (lv' := [(4, .ref wa20), (0, .ref (E 0)), (1, .int v1), (2, .int v2), (3, .int v3)]) hx hb dX10_test_113 hl (by decide) rfl (fun ls hl => ?_)
    refine lv_aload hx hb dX10_test_115 (lv_at hl 0 rfl) ?_
    refine x_getWe hF hWwa20 dX10_test_117 ?_
    refine lv_topi (fun x21 ex21 => ?_)
    have h := of_lt h ex21
    refine lv_istore_n (lv' := [(2, .int x21), (4, .ref wa20), (0, .ref (E 0)), (1, .int v1), (3, .int v3)]) hx hb dX10_test_120 rfl hl (by decide) rfl (fun ls hl => ?_)
    refine lv_aload_n hx hb dX10_test_121 rfl (lv_at hl 2 rfl) ?_
    refine lv_aload hx hb dX10_test_122 (lv_at hl 1 rfl) ?_
    refine x_getWp hF hWwa20 dX10_test_124 ?_
    refine pf_X10_71 hX hC hb hP hD hS dX10_test_127 (fun H locs σ22 eσ22 hP hS => ?_)
    have h := of_lt h eσ22
    exact t_X10_test_130 hX  hF ht htab x21 v3 σ22 _ _ _ h hP hS (lv_sub hl [2, 0, 4] rfl)

def f_X10_test_43 : Nat → Int32 → Int32 → Int32 → Int32 → Sta → Option (Int32 × Sta)
  | 0, _, _, _, _, _ => none
  | n + 1, v1, v2, v3, v4, σ => if 2 ≤ v4 then
      bnd (f_X10_worthOf v3 v1 σ) (fun r2 σ3 =>
      lt (sL σ3 36 r2) (fun σ5 =>
      f_X10_test_130 v2 v3 σ5))
    else
      if v4 = 1 then
        f_X10_test_61 (f_X10_test_43 n) v1 v2 v3 v4 1 σ
      else
        f_X10_test_61 (f_X10_test_43 n) v1 v2 v3 v4 0 σ
set_option maxHeartbeats 4000000 in
set_option maxRecDepth 100000 in
theorem t_X10_test_43 {l : Launch} {D : va_G} {Y : CYs} {E : Nat → Nat} {X : List Dsc} (hX : Lok (LM ++ X)) {p : Program} {e : Env} {s : State} {m : MethodId} {args : Array Value} {below : List Frame} {meth : Method} {c : Code} (hF : Fr p s m args meth c RX10 cX10_test 5 (some .int) D Y E (LM ++ X)) {o : Int32 × Sta} (ht : l.stackTraces = false) (htab : c.exceptionTable.toList = tableOf [(40, 110, 113, 222)]) : ∀ (n : Nat) (v1 : Int32) (v2 : Int32) (v3 : Int32) (v4 : Int32) (σ : Sta) (H : Heap) (locs : List Loc) (ls : Array Slot), f_X10_test_43 n v1 v2 v3 v4 σ = some o → va_P D vwCl (wd Y E σ 0 (LM ++ X)) H → va_S (AF E (LM ++ X).length s.heap.size) s.heap H locs → lv_has ls 5 [(0, .ref (E 0)), (1, .int v1), (2, .int v2), (3, .int v3), (4, .int v4)] → W p l e rm_X10_test s m args below meth c H locs 0 0 (MQ below (QI (LM ++ X) Y D E s.heap.size o) args s 1 8 (AF E (LM ++ X).length s.heap.size)) (F0 m 43 ls []) := by
  intro n
  induction n with
  | zero =>
    intro v1 v2 v3 v4 σ H locs ls h hP hS hl
    exact nomatch (show (none : Option (Int32 × Sta)) = some o from h)
  | succ n ih =>
    intro v1 v2 v3 v4 σ H locs ls h hP hS hl
    rw [f_X10_test_43] at h
    obtain ⟨hC, hb, hml, hr, hlk, hD, hSW⟩ := id hF
    have hx := hC.1
    refine lv_iload hx hb dX10_test_43 (lv_at hl 4 rfl) ?_
    refine lv_iconst (v := 2) hx hb dX10_test_45 (by decide) ?_
    refine lv_icmp_ge (tgt := 100) hx hb dX10_test_46 (by decide) (fun c1 => ?_) (fun c1 => ?_)
    · have h := of_t h c1
      refine lv_aload_n hx hb dX10_test_100 rfl (lv_at hl 0 rfl) ?_
      refine lv_aload_n hx hb dX10_test_101 rfl (lv_at hl 0 rfl) ?_
      refine lv_iload_n hx hb dX10_test_102 rfl (lv_at hl 3 rfl) ?_
      refine lv_iload_n hx hb dX10_test_103 rfl (lv_at hl 1 rfl) ?_
      obtain ⟨r2, σ3, g4, h⟩ := of_bnd h
      refine x_VL (As := [.int v3, .int v1]) (rest := [.ref (E 0)]) hF hl hP hS (c_X10_worthOf hX g4) (cw_X10_366 hC rfl rfl ⟨Nat.le_of_ble_eq_true rfl, Nat.le_of_ble_eq_true rfl⟩) (lm_0 X) rfl rfl rfl (Nat.le_of_ble_eq_true rfl) dX10_test_104 ⟨Nat.le_of_ble_eq_true rfl, Nat.le_of_ble_eq_true rfl⟩ (fun H locs hP hS => ?_)
      refine pf_X10_362 hX hC hb hP hD hS dX10_test_107 (fun H locs σ5 eσ5 hP hS => ?_)
      have h := of_lt h eσ5
      refine lv_goto (tgt := 130) hx hb dX10_test_110 (by decide) ?_
      refine W.widen (k := 1) (n := 8) (Nat.zero_le _) (Nat.zero_le _) ?_
      exact t_X10_test_130 hX  hF ht htab v2 v3 σ5 _ _ _ h hP hS (lv_sub hl [0, 2, 3] rfl)
    · have h := of_f h c1
      refine lv_aload_n hx hb dX10_test_49 rfl (lv_at hl 0 rfl) ?_
      refine lv_iload hx hb dX10_test_50 (lv_at hl 4 rfl) ?_
      refine lv_iconst (v := 1) hx hb dX10_test_52 (by decide) ?_
      refine lv_icmp_ne (tgt := 60) hx hb dX10_test_53 (by decide) (fun c6 => ?_) (fun c6 => ?_)
      · have h := of_f h c6
        refine lv_iconst (v := 0) hx hb dX10_test_60 (by decide) ?_
        exact t_X10_test_61 hX  hF ht htab (f_X10_test_43 n) ih v1 v2 v3 v4 0 σ _ _ _ h hP hS (lv_sub hl [0, 1, 2, 3, 4] rfl)
      · have h := of_t h c6
        refine lv_iconst (v := 1) hx hb dX10_test_56 (by decide) ?_
        refine lv_goto (tgt := 61) hx hb dX10_test_57 (by decide) ?_
        exact t_X10_test_61 hX  hF ht htab (f_X10_test_43 n) ih v1 v2 v3 v4 1 σ _ _ _ h hP hS (lv_sub hl [0, 1, 2, 3, 4] rfl)

def f_X10_test (a1 : Int32) (σ : Sta) : Option (Int32 × Sta) :=
  lt (sI σ 0 0) (fun σ1 =>
  bnd (f_X10_isState a1 σ1) (fun r2 σ3 =>
  if r2 = 0 then
    bnd (f_X10_fail 1 σ3) (fun r12 σ13 =>
    some (r12, σ13))
  else
    bnd (f_X10_cutTokens σ3) (fun _ σ7 =>
    lt (sI σ7 35 (-1)) (fun σ9 =>
    lt (sL σ9 36 0) (fun σ10 =>
    lt (gI σ10 26) (fun x11 =>
    f_X10_test_43 FU a1 0 x11 0 σ10))))))
set_option maxHeartbeats 4000000 in
set_option maxRecDepth 100000 in
theorem c_X10_test {l : Launch} {D : va_G} {Y : CYs} {E : Nat → Nat} {X : List Dsc} (hX : Lok (LM ++ X)) {a1 : Int32} (ht : l.stackTraces = false) {σ : Sta} {o : Int32 × Sta} (h : f_X10_test a1 σ = some o) : ∀ sz, Met l yX10_test (Cond.codeWith yX10_test cX10_test 5 (some .int) [(40, 110, 113, 222)] :: gW) rm_X10_test (PcC (LM ++ X) Y D E σ sz [.ref (E 0), .int a1]) (QI (LM ++ X) Y D E sz o) 1 8 (AF E (LM ++ X).length sz) := by
  refine Met_ofH (Qc := fun sz => QI (LM ++ X) Y D E sz o) (by decide) (Nat.le_of_ble_eq_true rfl) (fun p e s m args below meth c hF hP htab ls hl => ?_)
  have hS : va_S (AF E (LM ++ X).length s.heap.size) s.heap s.heap [] := va_S.rf
  have hl : lv_has ls 5 [(0, .ref (E 0)), (1, .int a1)] := hl
  show W p l e rm_X10_test s m args below meth c s.heap [] 0 0 (MQ below (QI (LM ++ X) Y D E s.heap.size o) args s 1 8 (AF E (LM ++ X).length s.heap.size)) (F0 m 0 ls [])
  unfold f_X10_test at h
  obtain ⟨hC, hb, hml, hr, hlk, hD, hSW⟩ := id hF
  have hx := hC.1
  refine lv_aload_n hx hb dX10_test_0 rfl (lv_at hl 0 rfl) ?_
  refine lv_iconst (v := 0) hx hb dX10_test_1 (by decide) ?_
  refine pf_X10_140 hX hC hb hP hD hS dX10_test_2 (fun H locs σ1 eσ1 hP hS => ?_)
  have h := of_lt h eσ1
  refine lv_aload_n hx hb dX10_test_5 rfl (lv_at hl 0 rfl) ?_
  refine lv_iload_n hx hb dX10_test_6 rfl (lv_at hl 1 rfl) ?_
  obtain ⟨r2, σ3, g4, h⟩ := of_bnd h
  refine x_VI (As := [.int a1]) (rest := []) hF hl hP hS (c_X10_isState hX g4) (cw_X10_359 hC rfl rfl ⟨Nat.le_of_ble_eq_true rfl, Nat.le_of_ble_eq_true rfl⟩) (lm_0 X) rfl rfl rfl (Nat.le_of_ble_eq_true rfl) dX10_test_7 ⟨Nat.le_of_ble_eq_true rfl, Nat.le_of_ble_eq_true rfl⟩ (fun H locs hP hS => ?_)
  refine lv_if_ne (tgt := 19) hx hb dX10_test_10 (by decide) (fun c5 => ?_) (fun c5 => ?_)
  · have h := of_f h c5
    refine lv_aload_n hx hb dX10_test_19 rfl (lv_at hl 0 rfl) ?_
    obtain ⟨r6, σ7, g8, h⟩ := of_bnd h
    refine x_VV (As := []) (rest := []) hF hl hP hS (c_X10_cutTokens hX g8) (cw_X10_336 hC rfl rfl ⟨Nat.le_of_ble_eq_true rfl, Nat.le_of_ble_eq_true rfl⟩) (lm_0 X) rfl rfl rfl (Nat.le_of_ble_eq_true rfl) dX10_test_20 ⟨Nat.le_of_ble_eq_true rfl, Nat.le_of_ble_eq_true rfl⟩ (fun H locs hP hS => ?_)
    refine lv_aload_n hx hb dX10_test_23 rfl (lv_at hl 0 rfl) ?_
    refine lv_iconst (v := -1) hx hb dX10_test_24 (by decide) ?_
    refine pf_X10_71 hX hC hb hP hD hS dX10_test_25 (fun H locs σ9 eσ9 hP hS => ?_)
    have h := of_lt h eσ9
    refine lv_aload_n hx hb dX10_test_28 rfl (lv_at hl 0 rfl) ?_
    refine lv_lconst (v := 0) hx hb dX10_test_29 (by decide) ?_
    refine pf_X10_362 hX hC hb hP hD hS dX10_test_30 (fun H locs σ10 eσ10 hP hS => ?_)
    have h := of_lt h eσ10
    refine lv_iconst (v := 0) hx hb dX10_test_33 (by decide) ?_
    refine lv_istore_n (lv' := [(2, .int 0), (0, .ref (E 0)), (1, .int a1)]) hx hb dX10_test_34 rfl hl (by decide) rfl (fun ls hl => ?_)
    refine lv_aload_n hx hb dX10_test_35 rfl (lv_at hl 1 rfl) ?_
    refine gf_X10_210 hC hb hP dX10_test_36 ?_
    refine lv_topi (fun x11 ex11 => ?_)
    have h := of_lt h ex11
    refine lv_istore_n (lv' := [(3, .int x11), (2, .int 0), (0, .ref (E 0)), (1, .int a1)]) hx hb dX10_test_39 rfl hl (by decide) rfl (fun ls hl => ?_)
    refine lv_iconst (v := 0) hx hb dX10_test_40 (by decide) ?_
    refine lv_istore (lv' := [(4, .int 0), (3, .int x11), (2, .int 0), (0, .ref (E 0)), (1, .int a1)]) hx hb dX10_test_41 hl (by decide) rfl (fun ls hl => ?_)
    exact t_X10_test_43 hX  hF ht htab FU a1 0 x11 0 σ10 _ _ _ h hP hS (lv_sub hl [3, 4, 2, 1, 0] rfl)
  · have h := of_t h c5
    refine lv_aload_n hx hb dX10_test_13 rfl (lv_at hl 0 rfl) ?_
    refine lv_iconst (v := 1) hx hb dX10_test_14 (by decide) ?_
    obtain ⟨r12, σ13, g14, h⟩ := of_bnd h
    refine x_VI (As := [.int 1]) (rest := []) hF hl hP hS (c_X10_fail hX g14) (cw_X10_146 hC rfl rfl ⟨Nat.le_of_ble_eq_true rfl, Nat.le_of_ble_eq_true rfl⟩) (lm_0 X) rfl rfl rfl (Nat.le_of_ble_eq_true rfl) dX10_test_15 ⟨Nat.le_of_ble_eq_true rfl, Nat.le_of_ble_eq_true rfl⟩ (fun H locs hP hS => ?_)
    refine W.widen (k := 1) (n := 8) (Nat.zero_le _) (Nat.zero_le _) ?_
    exact x_iret hF hP hS h dX10_test_18

abbrev rm_X10_result : Room := { frames := 0, cells := 0, slots := 0, locals := 0 }
def f_X10_result (σ : Sta) : Option (Int64 × Sta) :=
  lt (sI σ 0 0) (fun σ1 =>
  some (gL σ1 36, σ1))
set_option maxHeartbeats 4000000 in
set_option maxRecDepth 100000 in
theorem c_X10_result {l : Launch} {D : va_G} {Y : CYs} {E : Nat → Nat} {X : List Dsc} (hX : Lok (LM ++ X)) {σ : Sta} {o : Int64 × Sta} (h : f_X10_result σ = some o) : ML l yX10_result (Cond.code yX10_result cX10_result 1 (some .long) :: gW) rm_X10_result (LM ++ X) Y D E [.ref (E 0)] σ o := by
  intro sz
  refine Met_of (Qc := fun sz => QL (LM ++ X) Y D E sz o) (by decide) (Nat.le_of_ble_eq_true rfl) (fun p e s m args below meth c hF hP ls hl => ?_) sz
  have hS : va_S (AF E (LM ++ X).length s.heap.size) s.heap s.heap [] := va_S.rf
  have hl : lv_has ls 1 [(0, .ref (E 0))] := hl
  show WL p l e rm_X10_result s m args below meth c (LM ++ X) Y D E o s.heap [] (F0 m 0 ls [])
  unfold f_X10_result at h
  obtain ⟨hC, hb, hml, hr, hlk, hD, hSW⟩ := id hF
  have hx := hC.1
  refine lv_aload_n hx hb dX10_result_0 rfl (lv_at hl 0 rfl) ?_
  refine lv_iconst (v := 0) hx hb dX10_result_1 (by decide) ?_
  refine pf_X10_140 hX hC hb hP hD hS dX10_result_2 (fun H locs σ1 eσ1 hP hS => ?_)
  have h := of_lt h eσ1
  refine lv_aload_n hx hb dX10_result_5 rfl (lv_at hl 0 rfl) ?_
  refine gf_X10_362 hC hb hP dX10_result_6 ?_
  exact x_lret hF hP hS h dX10_result_9

abbrev rm_X10_isChoice : Room := { frames := 2, cells := 0, slots := 0, locals := 46 }
def f_X10_isChoice_31 (s0 : Int32) (σ : Sta) : Option (Int32 × Sta) :=
  if ¬ (s0 = 0 ∨ s0 = 1) then none else (
  some (s0, σ))
set_option maxHeartbeats 4000000 in
set_option maxRecDepth 100000 in
theorem t_X10_isChoice_31 {l : Launch} {D : va_G} {Y : CYs} {E : Nat → Nat} {X : List Dsc} (hX : Lok (LM ++ X)) {p : Program} {e : Env} {s : State} {m : MethodId} {args : Array Value} {below : List Frame} {meth : Method} {c : Code} (hF : Fr p s m args meth c RX10 cX10_isChoice 3 (some .boolean) D Y E (LM ++ X)) {o : Int32 × Sta} : ∀ (s0 : Int32) (σ : Sta) (H : Heap) (locs : List Loc) (ls : Array Slot), f_X10_isChoice_31 s0 σ = some o → va_P D vwCl (wd Y E σ 0 (LM ++ X)) H → va_S (AF E (LM ++ X).length s.heap.size) s.heap H locs → lv_has ls 3 [] → WI p l e rm_X10_isChoice s m args below meth c (LM ++ X) Y D E o H locs (F0 m 31 ls [.int s0]) := by
  intro s0 σ H locs ls h hP hS hl
  unfold f_X10_isChoice_31 at h
  obtain ⟨hC, hb, hml, hr, hlk, hD, hSW⟩ := id hF
  have hx := hC.1
  obtain ⟨g1, h⟩ := of_gd h
  exact x_zret hF hP hS (zb g1) h dX10_isChoice_31

def f_X10_isChoice_30 (σ : Sta) : Option (Int32 × Sta) :=
  f_X10_isChoice_31 0 σ
set_option maxHeartbeats 4000000 in
set_option maxRecDepth 100000 in
theorem t_X10_isChoice_30 {l : Launch} {D : va_G} {Y : CYs} {E : Nat → Nat} {X : List Dsc} (hX : Lok (LM ++ X)) {p : Program} {e : Env} {s : State} {m : MethodId} {args : Array Value} {below : List Frame} {meth : Method} {c : Code} (hF : Fr p s m args meth c RX10 cX10_isChoice 3 (some .boolean) D Y E (LM ++ X)) {o : Int32 × Sta} : ∀ (σ : Sta) (H : Heap) (locs : List Loc) (ls : Array Slot), f_X10_isChoice_30 σ = some o → va_P D vwCl (wd Y E σ 0 (LM ++ X)) H → va_S (AF E (LM ++ X).length s.heap.size) s.heap H locs → lv_has ls 3 [] → WI p l e rm_X10_isChoice s m args below meth c (LM ++ X) Y D E o H locs (F0 m 30 ls []) := by
  intro σ H locs ls h hP hS hl
  unfold f_X10_isChoice_30 at h
  obtain ⟨hC, hb, hml, hr, hlk, hD, hSW⟩ := id hF
  have hx := hC.1
  refine lv_iconst (v := 0) hx hb dX10_isChoice_30 (by decide) ?_
  exact t_X10_isChoice_31 hX  hF 0 σ _ _ _ h hP hS (lv_sub hl [] rfl)

def f_X10_isChoice (a1 : Int32) (a2 : Int32) (σ : Sta) : Option (Int32 × Sta) :=
  bnd (f_X10_isState a1 σ) (fun r1 σ2 =>
  if r1 = 0 then
    f_X10_isChoice_30 σ2
  else
    if a1 < 0 ∨ 100 ≤ (a1.toNatClampNeg) then none else (
    bnd (f_X10_isIn a2.toInt64 0 (((gA σ2 23 (a1.toNatClampNeg)) - 1).toInt64) σ2) (fun r6 σ7 =>
    if r6 = 0 then
      f_X10_isChoice_30 σ7
    else
      f_X10_isChoice_31 1 σ7)))
set_option maxHeartbeats 4000000 in
set_option maxRecDepth 100000 in
theorem c_X10_isChoice {l : Launch} {D : va_G} {Y : CYs} {E : Nat → Nat} {X : List Dsc} (hX : Lok (LM ++ X)) {a1 : Int32} {a2 : Int32} {σ : Sta} {o : Int32 × Sta} (h : f_X10_isChoice a1 a2 σ = some o) : MI l yX10_isChoice (Cond.code yX10_isChoice cX10_isChoice 3 (some .boolean) :: gW) rm_X10_isChoice (LM ++ X) Y D E [.ref (E 0), .int a1, .int a2] σ o := by
  intro sz
  refine Met_of (Qc := fun sz => QI (LM ++ X) Y D E sz o) (by decide) (Nat.le_of_ble_eq_true rfl) (fun p e s m args below meth c hF hP ls hl => ?_) sz
  have hS : va_S (AF E (LM ++ X).length s.heap.size) s.heap s.heap [] := va_S.rf
  have hl : lv_has ls 3 [(0, .ref (E 0)), (1, .int a1), (2, .int a2)] := hl
  show WI p l e rm_X10_isChoice s m args below meth c (LM ++ X) Y D E o s.heap [] (F0 m 0 ls [])
  unfold f_X10_isChoice at h
  obtain ⟨hC, hb, hml, hr, hlk, hD, hSW⟩ := id hF
  have hx := hC.1
  refine lv_aload_n hx hb dX10_isChoice_0 rfl (lv_at hl 0 rfl) ?_
  refine lv_iload_n hx hb dX10_isChoice_1 rfl (lv_at hl 1 rfl) ?_
  obtain ⟨r1, σ2, g3, h⟩ := of_bnd h
  refine x_VI (As := [.int a1]) (rest := []) hF hl hP hS (c_X10_isState hX g3) (cw_X10_359 hC rfl rfl ⟨Nat.le_of_ble_eq_true rfl, Nat.le_of_ble_eq_true rfl⟩) (lm_0 X) rfl rfl rfl (Nat.le_of_ble_eq_true rfl) dX10_isChoice_2 ⟨Nat.zero_le _, Nat.zero_le _⟩ (fun H locs hP hS => ?_)
  refine lv_if_eq (tgt := 30) hx hb dX10_isChoice_5 (by decide) (fun c4 => ?_) (fun c4 => ?_)
  · have h := of_t h c4
    exact t_X10_isChoice_30 hX  hF σ2 _ _ _ h hP hS (lv_sub hl [] rfl)
  · have h := of_f h c4
    refine lv_iload_n hx hb dX10_isChoice_8 rfl (lv_at hl 2 rfl) ?_
    refine lv_i2l (v := a2.toInt64) hx hb dX10_isChoice_9 rfl ?_
    refine lv_lconst (v := 0) hx hb dX10_isChoice_10 (by decide) ?_
    refine lv_aload_n hx hb dX10_isChoice_11 rfl (lv_at hl 0 rfl) ?_
    refine gf_X10_82 hC hb hP dX10_isChoice_12 ?_
    refine lv_iload_n hx hb dX10_isChoice_15 rfl (lv_at hl 1 rfl) ?_
    obtain ⟨g5, h⟩ := of_gd h
    refine x_iald hC hb hP (lm_23 X) g5 dX10_isChoice_16 ?_
    refine lv_iconst (v := 1) hx hb dX10_isChoice_17 (by decide) ?_
    refine lv_isub hx hb dX10_isChoice_18 ?_
    refine lv_i2l (v := ((gA σ2 23 (a1.toNatClampNeg)) - 1).toInt64) hx hb dX10_isChoice_19 rfl ?_
    obtain ⟨r6, σ7, g8, h⟩ := of_bnd h
    refine x_SI (As := [.long a2.toInt64, .long 0, .long (((gA σ2 23 (a1.toNatClampNeg)) - 1).toInt64)]) (rest := []) hF hl hP hS (c_X10_isIn hX g8) (cw_X10_154 hC rfl rfl ⟨Nat.le_of_ble_eq_true rfl, Nat.le_of_ble_eq_true rfl⟩) rfl rfl (Nat.le_of_ble_eq_true rfl) dX10_isChoice_20 ⟨Nat.zero_le _, Nat.zero_le _⟩ (fun H locs hP hS => ?_)
    refine lv_if_eq (tgt := 30) hx hb dX10_isChoice_23 (by decide) (fun c9 => ?_) (fun c9 => ?_)
    · have h := of_t h c9
      exact t_X10_isChoice_30 hX  hF σ7 _ _ _ h hP hS (lv_sub hl [] rfl)
    · have h := of_f h c9
      refine lv_iconst (v := 1) hx hb dX10_isChoice_26 (by decide) ?_
      refine lv_goto (tgt := 31) hx hb dX10_isChoice_27 (by decide) ?_
      exact t_X10_isChoice_31 hX  hF 1 σ7 _ _ _ h hP hS (lv_sub hl [] rfl)

abbrev rm_X10_manyBranches : Room := { frames := 0, cells := 0, slots := 0, locals := 0 }
def f_X10_manyBranches (a1 : Int32) (σ : Sta) : Option (Int32 × Sta) :=
  if a1 < 0 ∨ 1600 ≤ (a1.toNatClampNeg) then none else (
  if gA σ 24 (a1.toNatClampNeg) < 0 ∨ 16 ≤ ((gA σ 24 (a1.toNatClampNeg)).toNatClampNeg) then none else (
  some (gA σ 16 ((gA σ 24 (a1.toNatClampNeg)).toNatClampNeg), σ)))
set_option maxHeartbeats 4000000 in
set_option maxRecDepth 100000 in
theorem c_X10_manyBranches {l : Launch} {D : va_G} {Y : CYs} {E : Nat → Nat} {X : List Dsc} (hX : Lok (LM ++ X)) {a1 : Int32} {σ : Sta} {o : Int32 × Sta} (h : f_X10_manyBranches a1 σ = some o) : MI l yX10_manyBranches (Cond.code yX10_manyBranches cX10_manyBranches 2 (some .int) :: gW) rm_X10_manyBranches (LM ++ X) Y D E [.ref (E 0), .int a1] σ o := by
  intro sz
  refine Met_of (Qc := fun sz => QI (LM ++ X) Y D E sz o) (by decide) (Nat.le_of_ble_eq_true rfl) (fun p e s m args below meth c hF hP ls hl => ?_) sz
  have hS : va_S (AF E (LM ++ X).length s.heap.size) s.heap s.heap [] := va_S.rf
  have hl : lv_has ls 2 [(0, .ref (E 0)), (1, .int a1)] := hl
  show WI p l e rm_X10_manyBranches s m args below meth c (LM ++ X) Y D E o s.heap [] (F0 m 0 ls [])
  unfold f_X10_manyBranches at h
  obtain ⟨hC, hb, hml, hr, hlk, hD, hSW⟩ := id hF
  have hx := hC.1
  refine lv_aload_n hx hb dX10_manyBranches_0 rfl (lv_at hl 0 rfl) ?_
  refine gf_X10_56 hC hb hP dX10_manyBranches_1 ?_
  refine lv_aload_n hx hb dX10_manyBranches_4 rfl (lv_at hl 0 rfl) ?_
  refine gf_X10_85 hC hb hP dX10_manyBranches_5 ?_
  refine lv_iload_n hx hb dX10_manyBranches_8 rfl (lv_at hl 1 rfl) ?_
  obtain ⟨g1, h⟩ := of_gd h
  refine x_iald hC hb hP (lm_24 X) g1 dX10_manyBranches_9 ?_
  obtain ⟨g2, h⟩ := of_gd h
  refine x_iald hC hb hP (lm_16 X) g2 dX10_manyBranches_10 ?_
  exact x_iret hF hP hS h dX10_manyBranches_11

abbrev rm_X10_chanceOf : Room := { frames := 0, cells := 0, slots := 0, locals := 0 }
def f_X10_chanceOf (a1 : Int32) (a2 : Int32) (σ : Sta) : Option (Int32 × Sta) :=
  if a1 < 0 ∨ 1600 ≤ (a1.toNatClampNeg) then none else (
  if ((gA σ 24 (a1.toNatClampNeg)) * 4) + a2 < 0 ∨ 64 ≤ ((((gA σ 24 (a1.toNatClampNeg)) * 4) + a2).toNatClampNeg) then none else (
  some (gA σ 17 ((((gA σ 24 (a1.toNatClampNeg)) * 4) + a2).toNatClampNeg), σ)))
set_option maxHeartbeats 4000000 in
set_option maxRecDepth 100000 in
theorem c_X10_chanceOf {l : Launch} {D : va_G} {Y : CYs} {E : Nat → Nat} {X : List Dsc} (hX : Lok (LM ++ X)) {a1 : Int32} {a2 : Int32} {σ : Sta} {o : Int32 × Sta} (h : f_X10_chanceOf a1 a2 σ = some o) : MI l yX10_chanceOf (Cond.code yX10_chanceOf cX10_chanceOf 3 (some .int) :: gW) rm_X10_chanceOf (LM ++ X) Y D E [.ref (E 0), .int a1, .int a2] σ o := by
  intro sz
  refine Met_of (Qc := fun sz => QI (LM ++ X) Y D E sz o) (by decide) (Nat.le_of_ble_eq_true rfl) (fun p e s m args below meth c hF hP ls hl => ?_) sz
  have hS : va_S (AF E (LM ++ X).length s.heap.size) s.heap s.heap [] := va_S.rf
  have hl : lv_has ls 3 [(0, .ref (E 0)), (1, .int a1), (2, .int a2)] := hl
  show WI p l e rm_X10_chanceOf s m args below meth c (LM ++ X) Y D E o s.heap [] (F0 m 0 ls [])
  unfold f_X10_chanceOf at h
  obtain ⟨hC, hb, hml, hr, hlk, hD, hSW⟩ := id hF
  have hx := hC.1
  refine lv_aload_n hx hb dX10_chanceOf_0 rfl (lv_at hl 0 rfl) ?_
  refine gf_X10_59 hC hb hP dX10_chanceOf_1 ?_
  refine lv_aload_n hx hb dX10_chanceOf_4 rfl (lv_at hl 0 rfl) ?_
  refine gf_X10_85 hC hb hP dX10_chanceOf_5 ?_
  refine lv_iload_n hx hb dX10_chanceOf_8 rfl (lv_at hl 1 rfl) ?_
  obtain ⟨g1, h⟩ := of_gd h
  refine x_iald hC hb hP (lm_24 X) g1 dX10_chanceOf_9 ?_
  refine lv_iconst (v := 4) hx hb dX10_chanceOf_10 (by decide) ?_
  refine lv_imul hx hb dX10_chanceOf_11 ?_
  refine lv_iload_n hx hb dX10_chanceOf_12 rfl (lv_at hl 2 rfl) ?_
  refine lv_iadd hx hb dX10_chanceOf_13 ?_
  obtain ⟨g2, h⟩ := of_gd h
  refine x_iald hC hb hP (lm_17 X) g2 dX10_chanceOf_14 ?_
  exact x_iret hF hP hS h dX10_chanceOf_15

abbrev rm_X10_value : Room := { frames := 2, cells := 0, slots := 0, locals := 46 }
def f_X10_value_48 (s0 : Int32) (σ : Sta) : Option (Int32 × Sta) :=
  some (s0, σ)
set_option maxHeartbeats 4000000 in
set_option maxRecDepth 100000 in
theorem t_X10_value_48 {l : Launch} {D : va_G} {Y : CYs} {E : Nat → Nat} {X : List Dsc} (hX : Lok (LM ++ X)) {p : Program} {e : Env} {s : State} {m : MethodId} {args : Array Value} {below : List Frame} {meth : Method} {c : Code} (hF : Fr p s m args meth c RX10 cX10_value 3 (some .int) D Y E (LM ++ X)) {o : Int32 × Sta} : ∀ (s0 : Int32) (σ : Sta) (H : Heap) (locs : List Loc) (ls : Array Slot), f_X10_value_48 s0 σ = some o → va_P D vwCl (wd Y E σ 0 (LM ++ X)) H → va_S (AF E (LM ++ X).length s.heap.size) s.heap H locs → lv_has ls 3 [] → WI p l e rm_X10_value s m args below meth c (LM ++ X) Y D E o H locs (F0 m 48 ls [.int s0]) := by
  intro s0 σ H locs ls h hP hS hl
  unfold f_X10_value_48 at h
  obtain ⟨hC, hb, hml, hr, hlk, hD, hSW⟩ := id hF
  have hx := hC.1
  exact x_iret hF hP hS h dX10_value_48

def f_X10_value_43 (σ : Sta) : Option (Int32 × Sta) :=
  bnd (f_X10_fail 1 σ) (fun r1 σ2 =>
  f_X10_value_48 r1 σ2)
set_option maxHeartbeats 4000000 in
set_option maxRecDepth 100000 in
theorem t_X10_value_43 {l : Launch} {D : va_G} {Y : CYs} {E : Nat → Nat} {X : List Dsc} (hX : Lok (LM ++ X)) {p : Program} {e : Env} {s : State} {m : MethodId} {args : Array Value} {below : List Frame} {meth : Method} {c : Code} (hF : Fr p s m args meth c RX10 cX10_value 3 (some .int) D Y E (LM ++ X)) {o : Int32 × Sta} : ∀ (σ : Sta) (H : Heap) (locs : List Loc) (ls : Array Slot), f_X10_value_43 σ = some o → va_P D vwCl (wd Y E σ 0 (LM ++ X)) H → va_S (AF E (LM ++ X).length s.heap.size) s.heap H locs → lv_has ls 3 [(0, .ref (E 0))] → WI p l e rm_X10_value s m args below meth c (LM ++ X) Y D E o H locs (F0 m 43 ls []) := by
  intro σ H locs ls h hP hS hl
  unfold f_X10_value_43 at h
  obtain ⟨hC, hb, hml, hr, hlk, hD, hSW⟩ := id hF
  have hx := hC.1
  refine lv_aload_n hx hb dX10_value_43 rfl (lv_at hl 0 rfl) ?_
  refine lv_iconst (v := 1) hx hb dX10_value_44 (by decide) ?_
  obtain ⟨r1, σ2, g3, h⟩ := of_bnd h
  refine x_VI (As := [.int 1]) (rest := []) hF hl hP hS (c_X10_fail hX g3) (cw_X10_146 hC rfl rfl ⟨Nat.le_of_ble_eq_true rfl, Nat.le_of_ble_eq_true rfl⟩) (lm_0 X) rfl rfl rfl (Nat.le_of_ble_eq_true rfl) dX10_value_45 ⟨Nat.zero_le _, Nat.zero_le _⟩ (fun H locs hP hS => ?_)
  exact t_X10_value_48 hX  hF r1 σ2 _ _ _ h hP hS (lv_sub hl [] rfl)

def f_X10_value (a1 : Int32) (a2 : Int32) (σ : Sta) : Option (Int32 × Sta) :=
  lt (sI σ 0 0) (fun σ1 =>
  bnd (f_X10_isState a1 σ1) (fun r2 σ3 =>
  if r2 = 0 then
    f_X10_value_43 σ3
  else
    bnd (f_X10_isIn a2.toInt64 0 (((gI σ3 10) - 1).toInt64) σ3) (fun r6 σ7 =>
    if r6 = 0 then
      f_X10_value_43 σ7
    else
      if (6 * a1) + a2 < 0 ∨ 600 ≤ (((6 * a1) + a2).toNatClampNeg) then none else (
      f_X10_value_48 (gA σ7 21 (((6 * a1) + a2).toNatClampNeg)) σ7))))
set_option maxHeartbeats 4000000 in
set_option maxRecDepth 100000 in
theorem c_X10_value {l : Launch} {D : va_G} {Y : CYs} {E : Nat → Nat} {X : List Dsc} (hX : Lok (LM ++ X)) {a1 : Int32} {a2 : Int32} {σ : Sta} {o : Int32 × Sta} (h : f_X10_value a1 a2 σ = some o) : MI l yX10_value (Cond.code yX10_value cX10_value 3 (some .int) :: gW) rm_X10_value (LM ++ X) Y D E [.ref (E 0), .int a1, .int a2] σ o := by
  intro sz
  refine Met_of (Qc := fun sz => QI (LM ++ X) Y D E sz o) (by decide) (Nat.le_of_ble_eq_true rfl) (fun p e s m args below meth c hF hP ls hl => ?_) sz
  have hS : va_S (AF E (LM ++ X).length s.heap.size) s.heap s.heap [] := va_S.rf
  have hl : lv_has ls 3 [(0, .ref (E 0)), (1, .int a1), (2, .int a2)] := hl
  show WI p l e rm_X10_value s m args below meth c (LM ++ X) Y D E o s.heap [] (F0 m 0 ls [])
  unfold f_X10_value at h
  obtain ⟨hC, hb, hml, hr, hlk, hD, hSW⟩ := id hF
  have hx := hC.1
  refine lv_aload_n hx hb dX10_value_0 rfl (lv_at hl 0 rfl) ?_
  refine lv_iconst (v := 0) hx hb dX10_value_1 (by decide) ?_
  refine pf_X10_140 hX hC hb hP hD hS dX10_value_2 (fun H locs σ1 eσ1 hP hS => ?_)
  have h := of_lt h eσ1
  refine lv_aload_n hx hb dX10_value_5 rfl (lv_at hl 0 rfl) ?_
  refine lv_iload_n hx hb dX10_value_6 rfl (lv_at hl 1 rfl) ?_
  obtain ⟨r2, σ3, g4, h⟩ := of_bnd h
  refine x_VI (As := [.int a1]) (rest := []) hF hl hP hS (c_X10_isState hX g4) (cw_X10_359 hC rfl rfl ⟨Nat.le_of_ble_eq_true rfl, Nat.le_of_ble_eq_true rfl⟩) (lm_0 X) rfl rfl rfl (Nat.le_of_ble_eq_true rfl) dX10_value_7 ⟨Nat.zero_le _, Nat.zero_le _⟩ (fun H locs hP hS => ?_)
  refine lv_if_eq (tgt := 43) hx hb dX10_value_10 (by decide) (fun c5 => ?_) (fun c5 => ?_)
  · have h := of_t h c5
    exact t_X10_value_43 hX  hF σ3 _ _ _ h hP hS (lv_sub hl [0] rfl)
  · have h := of_f h c5
    refine lv_iload_n hx hb dX10_value_13 rfl (lv_at hl 2 rfl) ?_
    refine lv_i2l (v := a2.toInt64) hx hb dX10_value_14 rfl ?_
    refine lv_lconst (v := 0) hx hb dX10_value_15 (by decide) ?_
    refine lv_aload_n hx hb dX10_value_16 rfl (lv_at hl 0 rfl) ?_
    refine gf_X10_198 hC hb hP dX10_value_17 ?_
    refine lv_iconst (v := 1) hx hb dX10_value_20 (by decide) ?_
    refine lv_isub hx hb dX10_value_21 ?_
    refine lv_i2l (v := ((gI σ3 10) - 1).toInt64) hx hb dX10_value_22 rfl ?_
    obtain ⟨r6, σ7, g8, h⟩ := of_bnd h
    refine x_SI (As := [.long a2.toInt64, .long 0, .long (((gI σ3 10) - 1).toInt64)]) (rest := []) hF hl hP hS (c_X10_isIn hX g8) (cw_X10_154 hC rfl rfl ⟨Nat.le_of_ble_eq_true rfl, Nat.le_of_ble_eq_true rfl⟩) rfl rfl (Nat.le_of_ble_eq_true rfl) dX10_value_23 ⟨Nat.zero_le _, Nat.zero_le _⟩ (fun H locs hP hS => ?_)
    refine lv_if_eq (tgt := 43) hx hb dX10_value_26 (by decide) (fun c9 => ?_) (fun c9 => ?_)
    · have h := of_t h c9
      exact t_X10_value_43 hX  hF σ7 _ _ _ h hP hS (lv_sub hl [0] rfl)
    · have h := of_f h c9
      refine lv_aload_n hx hb dX10_value_29 rfl (lv_at hl 0 rfl) ?_
      refine gf_X10_75 hC hb hP dX10_value_30 ?_
      refine lv_bipush (v := 6) hx hb dX10_value_33 (by decide) ?_
      refine lv_iload_n hx hb dX10_value_35 rfl (lv_at hl 1 rfl) ?_
      refine lv_imul hx hb dX10_value_36 ?_
      refine lv_iload_n hx hb dX10_value_37 rfl (lv_at hl 2 rfl) ?_
      refine lv_iadd hx hb dX10_value_38 ?_
      obtain ⟨g10, h⟩ := of_gd h
      refine x_iald hC hb hP (lm_21 X) g10 dX10_value_39 ?_
      refine lv_goto (tgt := 48) hx hb dX10_value_40 (by decide) ?_
      exact t_X10_value_48 hX  hF (gA σ7 21 (((6 * a1) + a2).toNatClampNeg)) σ7 _ _ _ h hP hS (lv_sub hl [] rfl)

abbrev rm_X10_choicesTold : Room := { frames := 0, cells := 0, slots := 0, locals := 0 }
def f_X10_choicesTold_19 (s0 : Int32) (σ : Sta) : Option (Int32 × Sta) :=
  some (s0, σ)
set_option maxHeartbeats 4000000 in
set_option maxRecDepth 100000 in
theorem t_X10_choicesTold_19 {l : Launch} {D : va_G} {Y : CYs} {E : Nat → Nat} {X : List Dsc} (hX : Lok (LM ++ X)) {p : Program} {e : Env} {s : State} {m : MethodId} {args : Array Value} {below : List Frame} {meth : Method} {c : Code} (hF : Fr p s m args meth c RX10 cX10_choicesTold 2 (some .int) D Y E (LM ++ X)) {o : Int32 × Sta} : ∀ (s0 : Int32) (σ : Sta) (H : Heap) (locs : List Loc) (ls : Array Slot), f_X10_choicesTold_19 s0 σ = some o → va_P D vwCl (wd Y E σ 0 (LM ++ X)) H → va_S (AF E (LM ++ X).length s.heap.size) s.heap H locs → lv_has ls 2 [] → WI p l e rm_X10_choicesTold s m args below meth c (LM ++ X) Y D E o H locs (F0 m 19 ls [.int s0]) := by
  intro s0 σ H locs ls h hP hS hl
  unfold f_X10_choicesTold_19 at h
  obtain ⟨hC, hb, hml, hr, hlk, hD, hSW⟩ := id hF
  have hx := hC.1
  exact x_iret hF hP hS h dX10_choicesTold_19

def f_X10_choicesTold (a1 : Int32) (σ : Sta) : Option (Int32 × Sta) :=
  if a1 < 0 ∨ 100 ≤ (a1.toNatClampNeg) then none else (
  if gA σ 22 (a1.toNatClampNeg) = 0 then
    if a1 < 0 ∨ 100 ≤ (a1.toNatClampNeg) then none else (
    f_X10_choicesTold_19 (gA σ 23 (a1.toNatClampNeg)) σ)
  else
    f_X10_choicesTold_19 (-1) σ)
set_option maxHeartbeats 4000000 in
set_option maxRecDepth 100000 in
theorem c_X10_choicesTold {l : Launch} {D : va_G} {Y : CYs} {E : Nat → Nat} {X : List Dsc} (hX : Lok (LM ++ X)) {a1 : Int32} {σ : Sta} {o : Int32 × Sta} (h : f_X10_choicesTold a1 σ = some o) : MI l yX10_choicesTold (Cond.code yX10_choicesTold cX10_choicesTold 2 (some .int) :: gW) rm_X10_choicesTold (LM ++ X) Y D E [.ref (E 0), .int a1] σ o := by
  intro sz
  refine Met_of (Qc := fun sz => QI (LM ++ X) Y D E sz o) (by decide) (Nat.le_of_ble_eq_true rfl) (fun p e s m args below meth c hF hP ls hl => ?_) sz
  have hS : va_S (AF E (LM ++ X).length s.heap.size) s.heap s.heap [] := va_S.rf
  have hl : lv_has ls 2 [(0, .ref (E 0)), (1, .int a1)] := hl
  show WI p l e rm_X10_choicesTold s m args below meth c (LM ++ X) Y D E o s.heap [] (F0 m 0 ls [])
  unfold f_X10_choicesTold at h
  obtain ⟨hC, hb, hml, hr, hlk, hD, hSW⟩ := id hF
  have hx := hC.1
  refine lv_aload_n hx hb dX10_choicesTold_0 rfl (lv_at hl 0 rfl) ?_
  refine gf_X10_78 hC hb hP dX10_choicesTold_1 ?_
  refine lv_iload_n hx hb dX10_choicesTold_4 rfl (lv_at hl 1 rfl) ?_
  obtain ⟨g1, h⟩ := of_gd h
  refine x_zald hC hb hP (lm_22 X) g1 dX10_choicesTold_5 ?_
  refine lv_if_eq (tgt := 13) hx hb dX10_choicesTold_6 (by decide) (fun c2 => ?_) (fun c2 => ?_)
  · have h := of_t h c2
    refine lv_aload_n hx hb dX10_choicesTold_13 rfl (lv_at hl 0 rfl) ?_
    refine gf_X10_82 hC hb hP dX10_choicesTold_14 ?_
    refine lv_iload_n hx hb dX10_choicesTold_17 rfl (lv_at hl 1 rfl) ?_
    obtain ⟨g3, h⟩ := of_gd h
    refine x_iald hC hb hP (lm_23 X) g3 dX10_choicesTold_18 ?_
    exact t_X10_choicesTold_19 hX  hF (gA σ 23 (a1.toNatClampNeg)) σ _ _ _ h hP hS (lv_sub hl [] rfl)
  · have h := of_f h c2
    refine lv_iconst (v := -1) hx hb dX10_choicesTold_9 (by decide) ?_
    refine lv_goto (tgt := 19) hx hb dX10_choicesTold_10 (by decide) ?_
    exact t_X10_choicesTold_19 hX  hF (-1) σ _ _ _ h hP hS (lv_sub hl [] rfl)

abbrev rm_X10_choices : Room := { frames := 2, cells := 0, slots := 0, locals := 46 }
def f_X10_choices_26 (s0 : Int32) (σ : Sta) : Option (Int32 × Sta) :=
  some (s0, σ)
set_option maxHeartbeats 4000000 in
set_option maxRecDepth 100000 in
theorem t_X10_choices_26 {l : Launch} {D : va_G} {Y : CYs} {E : Nat → Nat} {X : List Dsc} (hX : Lok (LM ++ X)) {p : Program} {e : Env} {s : State} {m : MethodId} {args : Array Value} {below : List Frame} {meth : Method} {c : Code} (hF : Fr p s m args meth c RX10 cX10_choices 2 (some .int) D Y E (LM ++ X)) {o : Int32 × Sta} : ∀ (s0 : Int32) (σ : Sta) (H : Heap) (locs : List Loc) (ls : Array Slot), f_X10_choices_26 s0 σ = some o → va_P D vwCl (wd Y E σ 0 (LM ++ X)) H → va_S (AF E (LM ++ X).length s.heap.size) s.heap H locs → lv_has ls 2 [] → WI p l e rm_X10_choices s m args below meth c (LM ++ X) Y D E o H locs (F0 m 26 ls [.int s0]) := by
  intro s0 σ H locs ls h hP hS hl
  unfold f_X10_choices_26 at h
  obtain ⟨hC, hb, hml, hr, hlk, hD, hSW⟩ := id hF
  have hx := hC.1
  exact x_iret hF hP hS h dX10_choices_26

def f_X10_choices (a1 : Int32) (σ : Sta) : Option (Int32 × Sta) :=
  lt (sI σ 0 0) (fun σ1 =>
  bnd (f_X10_isState a1 σ1) (fun r2 σ3 =>
  if r2 = 0 then
    bnd (f_X10_fail 1 σ3) (fun r6 σ7 =>
    f_X10_choices_26 r6 σ7)
  else
    bnd (f_X10_choicesTold a1 σ3) (fun r9 σ10 =>
    f_X10_choices_26 r9 σ10)))
set_option maxHeartbeats 4000000 in
set_option maxRecDepth 100000 in
theorem c_X10_choices {l : Launch} {D : va_G} {Y : CYs} {E : Nat → Nat} {X : List Dsc} (hX : Lok (LM ++ X)) {a1 : Int32} {σ : Sta} {o : Int32 × Sta} (h : f_X10_choices a1 σ = some o) : MI l yX10_choices (Cond.code yX10_choices cX10_choices 2 (some .int) :: gW) rm_X10_choices (LM ++ X) Y D E [.ref (E 0), .int a1] σ o := by
  intro sz
  refine Met_of (Qc := fun sz => QI (LM ++ X) Y D E sz o) (by decide) (Nat.le_of_ble_eq_true rfl) (fun p e s m args below meth c hF hP ls hl => ?_) sz
  have hS : va_S (AF E (LM ++ X).length s.heap.size) s.heap s.heap [] := va_S.rf
  have hl : lv_has ls 2 [(0, .ref (E 0)), (1, .int a1)] := hl
  show WI p l e rm_X10_choices s m args below meth c (LM ++ X) Y D E o s.heap [] (F0 m 0 ls [])
  unfold f_X10_choices at h
  obtain ⟨hC, hb, hml, hr, hlk, hD, hSW⟩ := id hF
  have hx := hC.1
  refine lv_aload_n hx hb dX10_choices_0 rfl (lv_at hl 0 rfl) ?_
  refine lv_iconst (v := 0) hx hb dX10_choices_1 (by decide) ?_
  refine pf_X10_140 hX hC hb hP hD hS dX10_choices_2 (fun H locs σ1 eσ1 hP hS => ?_)
  have h := of_lt h eσ1
  refine lv_aload_n hx hb dX10_choices_5 rfl (lv_at hl 0 rfl) ?_
  refine lv_iload_n hx hb dX10_choices_6 rfl (lv_at hl 1 rfl) ?_
  obtain ⟨r2, σ3, g4, h⟩ := of_bnd h
  refine x_VI (As := [.int a1]) (rest := []) hF hl hP hS (c_X10_isState hX g4) (cw_X10_359 hC rfl rfl ⟨Nat.le_of_ble_eq_true rfl, Nat.le_of_ble_eq_true rfl⟩) (lm_0 X) rfl rfl rfl (Nat.le_of_ble_eq_true rfl) dX10_choices_7 ⟨Nat.zero_le _, Nat.zero_le _⟩ (fun H locs hP hS => ?_)
  refine lv_if_eq (tgt := 21) hx hb dX10_choices_10 (by decide) (fun c5 => ?_) (fun c5 => ?_)
  · have h := of_t h c5
    refine lv_aload_n hx hb dX10_choices_21 rfl (lv_at hl 0 rfl) ?_
    refine lv_iconst (v := 1) hx hb dX10_choices_22 (by decide) ?_
    obtain ⟨r6, σ7, g8, h⟩ := of_bnd h
    refine x_VI (As := [.int 1]) (rest := []) hF hl hP hS (c_X10_fail hX g8) (cw_X10_146 hC rfl rfl ⟨Nat.le_of_ble_eq_true rfl, Nat.le_of_ble_eq_true rfl⟩) (lm_0 X) rfl rfl rfl (Nat.le_of_ble_eq_true rfl) dX10_choices_23 ⟨Nat.zero_le _, Nat.zero_le _⟩ (fun H locs hP hS => ?_)
    exact t_X10_choices_26 hX  hF r6 σ7 _ _ _ h hP hS (lv_sub hl [] rfl)
  · have h := of_f h c5
    refine lv_aload_n hx hb dX10_choices_13 rfl (lv_at hl 0 rfl) ?_
    refine lv_iload_n hx hb dX10_choices_14 rfl (lv_at hl 1 rfl) ?_
    obtain ⟨r9, σ10, g11, h⟩ := of_bnd h
    refine x_VI (As := [.int a1]) (rest := []) hF hl hP hS (c_X10_choicesTold hX g11) (cw_X10_395 hC rfl rfl ⟨Nat.le_of_ble_eq_true rfl, Nat.le_of_ble_eq_true rfl⟩) (lm_0 X) rfl rfl rfl (Nat.le_of_ble_eq_true rfl) dX10_choices_15 ⟨Nat.zero_le _, Nat.zero_le _⟩ (fun H locs hP hS => ?_)
    refine lv_goto (tgt := 26) hx hb dX10_choices_18 (by decide) ?_
    exact t_X10_choices_26 hX  hF r9 σ10 _ _ _ h hP hS (lv_sub hl [] rfl)

abbrev rm_X10_choice : Room := { frames := 3, cells := 0, slots := 0, locals := 68 }
def f_X10_choice_24 (σ : Sta) : Option (Int32 × Sta) :=
  bnd (f_X10_fail 1 σ) (fun r1 σ2 =>
  some (r1, σ2))
set_option maxHeartbeats 4000000 in
set_option maxRecDepth 100000 in
theorem t_X10_choice_24 {l : Launch} {D : va_G} {Y : CYs} {E : Nat → Nat} {X : List Dsc} (hX : Lok (LM ++ X)) {p : Program} {e : Env} {s : State} {m : MethodId} {args : Array Value} {below : List Frame} {meth : Method} {c : Code} (hF : Fr p s m args meth c RX10 cX10_choice 5 (some .int) D Y E (LM ++ X)) {o : Int32 × Sta} : ∀ (σ : Sta) (H : Heap) (locs : List Loc) (ls : Array Slot), f_X10_choice_24 σ = some o → va_P D vwCl (wd Y E σ 0 (LM ++ X)) H → va_S (AF E (LM ++ X).length s.heap.size) s.heap H locs → lv_has ls 5 [(0, .ref (E 0))] → WI p l e rm_X10_choice s m args below meth c (LM ++ X) Y D E o H locs (F0 m 24 ls []) := by
  intro σ H locs ls h hP hS hl
  unfold f_X10_choice_24 at h
  obtain ⟨hC, hb, hml, hr, hlk, hD, hSW⟩ := id hF
  have hx := hC.1
  refine lv_aload_n hx hb dX10_choice_24 rfl (lv_at hl 0 rfl) ?_
  refine lv_iconst (v := 1) hx hb dX10_choice_25 (by decide) ?_
  obtain ⟨r1, σ2, g3, h⟩ := of_bnd h
  refine x_VI (As := [.int 1]) (rest := []) hF hl hP hS (c_X10_fail hX g3) (cw_X10_146 hC rfl rfl ⟨Nat.le_of_ble_eq_true rfl, Nat.le_of_ble_eq_true rfl⟩) (lm_0 X) rfl rfl rfl (Nat.le_of_ble_eq_true rfl) dX10_choice_26 ⟨Nat.zero_le _, Nat.zero_le _⟩ (fun H locs hP hS => ?_)
  exact x_iret hF hP hS h dX10_choice_29

def f_X10_choice_58 (s0 : Int32) (σ : Sta) : Option (Int32 × Sta) :=
  some (s0, σ)
set_option maxHeartbeats 4000000 in
set_option maxRecDepth 100000 in
theorem t_X10_choice_58 {l : Launch} {D : va_G} {Y : CYs} {E : Nat → Nat} {X : List Dsc} (hX : Lok (LM ++ X)) {p : Program} {e : Env} {s : State} {m : MethodId} {args : Array Value} {below : List Frame} {meth : Method} {c : Code} (hF : Fr p s m args meth c RX10 cX10_choice 5 (some .int) D Y E (LM ++ X)) {o : Int32 × Sta} : ∀ (s0 : Int32) (σ : Sta) (H : Heap) (locs : List Loc) (ls : Array Slot), f_X10_choice_58 s0 σ = some o → va_P D vwCl (wd Y E σ 0 (LM ++ X)) H → va_S (AF E (LM ++ X).length s.heap.size) s.heap H locs → lv_has ls 5 [] → WI p l e rm_X10_choice s m args below meth c (LM ++ X) Y D E o H locs (F0 m 58 ls [.int s0]) := by
  intro s0 σ H locs ls h hP hS hl
  unfold f_X10_choice_58 at h
  obtain ⟨hC, hb, hml, hr, hlk, hD, hSW⟩ := id hF
  have hx := hC.1
  exact x_iret hF hP hS h dX10_choice_58

def f_X10_choice (a1 : Int32) (a2 : Int32) (a3 : Int32) (σ : Sta) : Option (Int32 × Sta) :=
  lt (sI σ 0 0) (fun σ1 =>
  bnd (f_X10_isChoice a1 a2 σ1) (fun r2 σ3 =>
  if r2 = 0 then
    f_X10_choice_24 σ3
  else
    bnd (f_X10_isIn a3.toInt64 0 1 σ3) (fun r6 σ7 =>
    if r6 = 0 then
      f_X10_choice_24 σ7
    else
      lt ((16 * a1) + a2) (fun x10 =>
      if a3 = 0 then
        if x10 < 0 ∨ 1600 ≤ (x10.toNatClampNeg) then none else (
        f_X10_choice_58 (gA σ7 24 (x10.toNatClampNeg)) σ7)
      else
        bnd (f_X10_manyBranches x10 σ7) (fun r12 σ13 =>
        f_X10_choice_58 r12 σ13)))))
set_option maxHeartbeats 4000000 in
set_option maxRecDepth 100000 in
theorem c_X10_choice {l : Launch} {D : va_G} {Y : CYs} {E : Nat → Nat} {X : List Dsc} (hX : Lok (LM ++ X)) {a1 : Int32} {a2 : Int32} {a3 : Int32} {σ : Sta} {o : Int32 × Sta} (h : f_X10_choice a1 a2 a3 σ = some o) : MI l yX10_choice (Cond.code yX10_choice cX10_choice 5 (some .int) :: gW) rm_X10_choice (LM ++ X) Y D E [.ref (E 0), .int a1, .int a2, .int a3] σ o := by
  intro sz
  refine Met_of (Qc := fun sz => QI (LM ++ X) Y D E sz o) (by decide) (Nat.le_of_ble_eq_true rfl) (fun p e s m args below meth c hF hP ls hl => ?_) sz
  have hS : va_S (AF E (LM ++ X).length s.heap.size) s.heap s.heap [] := va_S.rf
  have hl : lv_has ls 5 [(0, .ref (E 0)), (1, .int a1), (2, .int a2), (3, .int a3)] := hl
  show WI p l e rm_X10_choice s m args below meth c (LM ++ X) Y D E o s.heap [] (F0 m 0 ls [])
  unfold f_X10_choice at h
  obtain ⟨hC, hb, hml, hr, hlk, hD, hSW⟩ := id hF
  have hx := hC.1
  refine lv_aload_n hx hb dX10_choice_0 rfl (lv_at hl 0 rfl) ?_
  refine lv_iconst (v := 0) hx hb dX10_choice_1 (by decide) ?_
  refine pf_X10_140 hX hC hb hP hD hS dX10_choice_2 (fun H locs σ1 eσ1 hP hS => ?_)
  have h := of_lt h eσ1
  refine lv_aload_n hx hb dX10_choice_5 rfl (lv_at hl 0 rfl) ?_
  refine lv_iload_n hx hb dX10_choice_6 rfl (lv_at hl 1 rfl) ?_
  refine lv_iload_n hx hb dX10_choice_7 rfl (lv_at hl 2 rfl) ?_
  obtain ⟨r2, σ3, g4, h⟩ := of_bnd h
  refine x_VI (As := [.int a1, .int a2]) (rest := []) hF hl hP hS (c_X10_isChoice hX g4) (cw_X10_398 hC rfl rfl ⟨Nat.le_of_ble_eq_true rfl, Nat.le_of_ble_eq_true rfl⟩) (lm_0 X) rfl rfl rfl (Nat.le_of_ble_eq_true rfl) dX10_choice_8 ⟨Nat.zero_le _, Nat.zero_le _⟩ (fun H locs hP hS => ?_)
  refine lv_if_eq (tgt := 24) hx hb dX10_choice_11 (by decide) (fun c5 => ?_) (fun c5 => ?_)
  · have h := of_t h c5
    exact t_X10_choice_24 hX  hF σ3 _ _ _ h hP hS (lv_sub hl [0] rfl)
  · have h := of_f h c5
    refine lv_iload_n hx hb dX10_choice_14 rfl (lv_at hl 3 rfl) ?_
    refine lv_i2l (v := a3.toInt64) hx hb dX10_choice_15 rfl ?_
    refine lv_lconst (v := 0) hx hb dX10_choice_16 (by decide) ?_
    refine lv_lconst (v := 1) hx hb dX10_choice_17 (by decide) ?_
    obtain ⟨r6, σ7, g8, h⟩ := of_bnd h
    refine x_SI (As := [.long a3.toInt64, .long 0, .long 1]) (rest := []) hF hl hP hS (c_X10_isIn hX g8) (cw_X10_154 hC rfl rfl ⟨Nat.le_of_ble_eq_true rfl, Nat.le_of_ble_eq_true rfl⟩) rfl rfl (Nat.le_of_ble_eq_true rfl) dX10_choice_18 ⟨Nat.zero_le _, Nat.zero_le _⟩ (fun H locs hP hS => ?_)
    refine lv_if_ne (tgt := 30) hx hb dX10_choice_21 (by decide) (fun c9 => ?_) (fun c9 => ?_)
    · have h := of_f h c9
      refine lv_bipush (v := 16) hx hb dX10_choice_30 (by decide) ?_
      refine lv_iload_n hx hb dX10_choice_32 rfl (lv_at hl 1 rfl) ?_
      refine lv_imul hx hb dX10_choice_33 ?_
      refine lv_iload_n hx hb dX10_choice_34 rfl (lv_at hl 2 rfl) ?_
      refine lv_iadd hx hb dX10_choice_35 ?_
      refine lv_topi (fun x10 ex10 => ?_)
      have h := of_lt h ex10
      refine lv_istore (lv' := [(4, .int x10), (0, .ref (E 0)), (1, .int a1), (2, .int a2), (3, .int a3)]) hx hb dX10_choice_36 hl (by decide) rfl (fun ls hl => ?_)
      refine lv_iload_n hx hb dX10_choice_38 rfl (lv_at hl 4 rfl) ?_
      refine lv_if_ne (tgt := 52) hx hb dX10_choice_39 (by decide) (fun c11 => ?_) (fun c11 => ?_)
      · have h := of_f h c11
        refine lv_aload_n hx hb dX10_choice_52 rfl (lv_at hl 1 rfl) ?_
        refine lv_iload hx hb dX10_choice_53 (lv_at hl 0 rfl) ?_
        obtain ⟨r12, σ13, g14, h⟩ := of_bnd h
        refine x_VI (As := [.int x10]) (rest := []) hF hl hP hS (c_X10_manyBranches hX g14) (cw_X10_402 hC rfl rfl ⟨Nat.le_of_ble_eq_true rfl, Nat.le_of_ble_eq_true rfl⟩) (lm_0 X) rfl rfl rfl (Nat.le_of_ble_eq_true rfl) dX10_choice_55 ⟨Nat.zero_le _, Nat.zero_le _⟩ (fun H locs hP hS => ?_)
        exact t_X10_choice_58 hX  hF r12 σ13 _ _ _ h hP hS (lv_sub hl [] rfl)
      · have h := of_t h c11
        refine lv_aload_n hx hb dX10_choice_42 rfl (lv_at hl 1 rfl) ?_
        refine gf_X10_85 hC hb hP dX10_choice_43 ?_
        refine lv_iload hx hb dX10_choice_46 (lv_at hl 0 rfl) ?_
        obtain ⟨g15, h⟩ := of_gd h
        refine x_iald hC hb hP (lm_24 X) g15 dX10_choice_48 ?_
        refine lv_goto (tgt := 58) hx hb dX10_choice_49 (by decide) ?_
        exact t_X10_choice_58 hX  hF (gA σ7 24 (x10.toNatClampNeg)) σ7 _ _ _ h hP hS (lv_sub hl [] rfl)
    · have h := of_t h c9
      exact t_X10_choice_24 hX  hF σ7 _ _ _ h hP hS (lv_sub hl [0] rfl)

abbrev rm_X10_gain_ : Room := { frames := 3, cells := 0, slots := 0, locals := 68 }
def f_X10_gain__60 (s0 : Int64) (σ : Sta) : Option (Int64 × Sta) :=
  some (s0, σ)
set_option maxHeartbeats 4000000 in
set_option maxRecDepth 100000 in
theorem t_X10_gain__60 {l : Launch} {D : va_G} {Y : CYs} {E : Nat → Nat} {X : List Dsc} (hX : Lok (LM ++ X)) {p : Program} {e : Env} {s : State} {m : MethodId} {args : Array Value} {below : List Frame} {meth : Method} {c : Code} (hF : Fr p s m args meth c RX10 cX10_gain_ 4 (some .long) D Y E (LM ++ X)) {o : Int64 × Sta} : ∀ (s0 : Int64) (σ : Sta) (H : Heap) (locs : List Loc) (ls : Array Slot), f_X10_gain__60 s0 σ = some o → va_P D vwCl (wd Y E σ 0 (LM ++ X)) H → va_S (AF E (LM ++ X).length s.heap.size) s.heap H locs → lv_has ls 4 [] → WL p l e rm_X10_gain_ s m args below meth c (LM ++ X) Y D E o H locs (F0 m 60 ls [.long s0]) := by
  intro s0 σ H locs ls h hP hS hl
  unfold f_X10_gain__60 at h
  obtain ⟨hC, hb, hml, hr, hlk, hD, hSW⟩ := id hF
  have hx := hC.1
  exact x_lret hF hP hS h dX10_gain__60

def f_X10_gain__31 (v1 : Int32) (v2 : Int32) (v3 : Int32) (s0 : Int32) (σ : Sta) : Option (Int64 × Sta) :=
  lt (sI σ 0 s0) (fun σ1 =>
  if gI σ1 0 = 0 then
    if (3 * ((16 * v1) + v2)) + v3 < 0 ∨ 4800 ≤ (((3 * ((16 * v1) + v2)) + v3).toNatClampNeg) then none else (
    f_X10_gain__60 (gJ σ1 25 (((3 * ((16 * v1) + v2)) + v3).toNatClampNeg)) σ1)
  else
    f_X10_gain__60 0 σ1)
set_option maxHeartbeats 4000000 in
set_option maxRecDepth 100000 in
theorem t_X10_gain__31 {l : Launch} {D : va_G} {Y : CYs} {E : Nat → Nat} {X : List Dsc} (hX : Lok (LM ++ X)) {p : Program} {e : Env} {s : State} {m : MethodId} {args : Array Value} {below : List Frame} {meth : Method} {c : Code} (hF : Fr p s m args meth c RX10 cX10_gain_ 4 (some .long) D Y E (LM ++ X)) {o : Int64 × Sta} : ∀ (v1 : Int32) (v2 : Int32) (v3 : Int32) (s0 : Int32) (σ : Sta) (H : Heap) (locs : List Loc) (ls : Array Slot), f_X10_gain__31 v1 v2 v3 s0 σ = some o → va_P D vwCl (wd Y E σ 0 (LM ++ X)) H → va_S (AF E (LM ++ X).length s.heap.size) s.heap H locs → lv_has ls 4 [(0, .ref (E 0)), (1, .int v1), (2, .int v2), (3, .int v3)] → WL p l e rm_X10_gain_ s m args below meth c (LM ++ X) Y D E o H locs (F0 m 31 ls [.int s0, .ref (E 0)]) := by
  intro v1 v2 v3 s0 σ H locs ls h hP hS hl
  unfold f_X10_gain__31 at h
  obtain ⟨hC, hb, hml, hr, hlk, hD, hSW⟩ := id hF
  have hx := hC.1
  refine pf_X10_140 hX hC hb hP hD hS dX10_gain__31 (fun H locs σ1 eσ1 hP hS => ?_)
  have h := of_lt h eσ1
  refine lv_aload_n hx hb dX10_gain__34 rfl (lv_at hl 0 rfl) ?_
  refine gf_X10_140 hC hb hP dX10_gain__35 ?_
  refine lv_if_ne (tgt := 59) hx hb dX10_gain__38 (by decide) (fun c2 => ?_) (fun c2 => ?_)
  · have h := of_f h c2
    refine lv_lconst (v := 0) hx hb dX10_gain__59 (by decide) ?_
    exact t_X10_gain__60 hX  hF 0 σ1 _ _ _ h hP hS (lv_sub hl [] rfl)
  · have h := of_t h c2
    refine lv_aload_n hx hb dX10_gain__41 rfl (lv_at hl 0 rfl) ?_
    refine gf_X10_88 hC hb hP dX10_gain__42 ?_
    refine lv_iconst (v := 3) hx hb dX10_gain__45 (by decide) ?_
    refine lv_bipush (v := 16) hx hb dX10_gain__46 (by decide) ?_
    refine lv_iload_n hx hb dX10_gain__48 rfl (lv_at hl 1 rfl) ?_
    refine lv_imul hx hb dX10_gain__49 ?_
    refine lv_iload_n hx hb dX10_gain__50 rfl (lv_at hl 2 rfl) ?_
    refine lv_iadd hx hb dX10_gain__51 ?_
    refine lv_imul hx hb dX10_gain__52 ?_
    refine lv_iload_n hx hb dX10_gain__53 rfl (lv_at hl 3 rfl) ?_
    refine lv_iadd hx hb dX10_gain__54 ?_
    obtain ⟨g3, h⟩ := of_gd h
    refine x_lald hC hb hP (lm_25 X) g3 dX10_gain__55 ?_
    refine lv_goto (tgt := 60) hx hb dX10_gain__56 (by decide) ?_
    exact t_X10_gain__60 hX  hF (gJ σ1 25 (((3 * ((16 * v1) + v2)) + v3).toNatClampNeg)) σ1 _ _ _ h hP hS (lv_sub hl [] rfl)

def f_X10_gain__30 (v1 : Int32) (v2 : Int32) (v3 : Int32) (σ : Sta) : Option (Int64 × Sta) :=
  f_X10_gain__31 v1 v2 v3 1 σ
set_option maxHeartbeats 4000000 in
set_option maxRecDepth 100000 in
theorem t_X10_gain__30 {l : Launch} {D : va_G} {Y : CYs} {E : Nat → Nat} {X : List Dsc} (hX : Lok (LM ++ X)) {p : Program} {e : Env} {s : State} {m : MethodId} {args : Array Value} {below : List Frame} {meth : Method} {c : Code} (hF : Fr p s m args meth c RX10 cX10_gain_ 4 (some .long) D Y E (LM ++ X)) {o : Int64 × Sta} : ∀ (v1 : Int32) (v2 : Int32) (v3 : Int32) (σ : Sta) (H : Heap) (locs : List Loc) (ls : Array Slot), f_X10_gain__30 v1 v2 v3 σ = some o → va_P D vwCl (wd Y E σ 0 (LM ++ X)) H → va_S (AF E (LM ++ X).length s.heap.size) s.heap H locs → lv_has ls 4 [(0, .ref (E 0)), (1, .int v1), (2, .int v2), (3, .int v3)] → WL p l e rm_X10_gain_ s m args below meth c (LM ++ X) Y D E o H locs (F0 m 30 ls [.ref (E 0)]) := by
  intro v1 v2 v3 σ H locs ls h hP hS hl
  unfold f_X10_gain__30 at h
  obtain ⟨hC, hb, hml, hr, hlk, hD, hSW⟩ := id hF
  have hx := hC.1
  refine lv_iconst (v := 1) hx hb dX10_gain__30 (by decide) ?_
  exact t_X10_gain__31 hX  hF v1 v2 v3 1 σ _ _ _ h hP hS (lv_sub hl [0, 1, 2, 3] rfl)

def f_X10_gain_ (a1 : Int32) (a2 : Int32) (a3 : Int32) (σ : Sta) : Option (Int64 × Sta) :=
  bnd (f_X10_isChoice a1 a2 σ) (fun r1 σ2 =>
  if r1 = 0 then
    f_X10_gain__30 a1 a2 a3 σ2
  else
    bnd (f_X10_isIn a3.toInt64 0 (((gI σ2 15) - 1).toInt64) σ2) (fun r5 σ6 =>
    if r5 = 0 then
      f_X10_gain__30 a1 a2 a3 σ6
    else
      f_X10_gain__31 a1 a2 a3 0 σ6))
set_option maxHeartbeats 4000000 in
set_option maxRecDepth 100000 in
theorem c_X10_gain_ {l : Launch} {D : va_G} {Y : CYs} {E : Nat → Nat} {X : List Dsc} (hX : Lok (LM ++ X)) {a1 : Int32} {a2 : Int32} {a3 : Int32} {σ : Sta} {o : Int64 × Sta} (h : f_X10_gain_ a1 a2 a3 σ = some o) : ML l yX10_gain_ (Cond.code yX10_gain_ cX10_gain_ 4 (some .long) :: gW) rm_X10_gain_ (LM ++ X) Y D E [.ref (E 0), .int a1, .int a2, .int a3] σ o := by
  intro sz
  refine Met_of (Qc := fun sz => QL (LM ++ X) Y D E sz o) (by decide) (Nat.le_of_ble_eq_true rfl) (fun p e s m args below meth c hF hP ls hl => ?_) sz
  have hS : va_S (AF E (LM ++ X).length s.heap.size) s.heap s.heap [] := va_S.rf
  have hl : lv_has ls 4 [(0, .ref (E 0)), (1, .int a1), (2, .int a2), (3, .int a3)] := hl
  show WL p l e rm_X10_gain_ s m args below meth c (LM ++ X) Y D E o s.heap [] (F0 m 0 ls [])
  unfold f_X10_gain_ at h
  obtain ⟨hC, hb, hml, hr, hlk, hD, hSW⟩ := id hF
  have hx := hC.1
  refine lv_aload_n hx hb dX10_gain__0 rfl (lv_at hl 0 rfl) ?_
  refine lv_aload_n hx hb dX10_gain__1 rfl (lv_at hl 0 rfl) ?_
  refine lv_iload_n hx hb dX10_gain__2 rfl (lv_at hl 1 rfl) ?_
  refine lv_iload_n hx hb dX10_gain__3 rfl (lv_at hl 2 rfl) ?_
  obtain ⟨r1, σ2, g3, h⟩ := of_bnd h
  refine x_VI (As := [.int a1, .int a2]) (rest := [.ref (E 0)]) hF hl hP hS (c_X10_isChoice hX g3) (cw_X10_398 hC rfl rfl ⟨Nat.le_of_ble_eq_true rfl, Nat.le_of_ble_eq_true rfl⟩) (lm_0 X) rfl rfl rfl (Nat.le_of_ble_eq_true rfl) dX10_gain__4 ⟨Nat.zero_le _, Nat.zero_le _⟩ (fun H locs hP hS => ?_)
  refine lv_if_eq (tgt := 30) hx hb dX10_gain__7 (by decide) (fun c4 => ?_) (fun c4 => ?_)
  · have h := of_t h c4
    exact t_X10_gain__30 hX  hF a1 a2 a3 σ2 _ _ _ h hP hS (lv_sub hl [0, 1, 2, 3] rfl)
  · have h := of_f h c4
    refine lv_iload_n hx hb dX10_gain__10 rfl (lv_at hl 3 rfl) ?_
    refine lv_i2l (v := a3.toInt64) hx hb dX10_gain__11 rfl ?_
    refine lv_lconst (v := 0) hx hb dX10_gain__12 (by decide) ?_
    refine lv_aload_n hx hb dX10_gain__13 rfl (lv_at hl 0 rfl) ?_
    refine gf_X10_201 hC hb hP dX10_gain__14 ?_
    refine lv_iconst (v := 1) hx hb dX10_gain__17 (by decide) ?_
    refine lv_isub hx hb dX10_gain__18 ?_
    refine lv_i2l (v := ((gI σ2 15) - 1).toInt64) hx hb dX10_gain__19 rfl ?_
    obtain ⟨r5, σ6, g7, h⟩ := of_bnd h
    refine x_SI (As := [.long a3.toInt64, .long 0, .long (((gI σ2 15) - 1).toInt64)]) (rest := [.ref (E 0)]) hF hl hP hS (c_X10_isIn hX g7) (cw_X10_154 hC rfl rfl ⟨Nat.le_of_ble_eq_true rfl, Nat.le_of_ble_eq_true rfl⟩) rfl rfl (Nat.le_of_ble_eq_true rfl) dX10_gain__20 ⟨Nat.zero_le _, Nat.zero_le _⟩ (fun H locs hP hS => ?_)
    refine lv_if_eq (tgt := 30) hx hb dX10_gain__23 (by decide) (fun c8 => ?_) (fun c8 => ?_)
    · have h := of_t h c8
      exact t_X10_gain__30 hX  hF a1 a2 a3 σ6 _ _ _ h hP hS (lv_sub hl [0, 1, 2, 3] rfl)
    · have h := of_f h c8
      refine lv_iconst (v := 0) hx hb dX10_gain__26 (by decide) ?_
      refine lv_goto (tgt := 31) hx hb dX10_gain__27 (by decide) ?_
      exact t_X10_gain__31 hX  hF a1 a2 a3 0 σ6 _ _ _ h hP hS (lv_sub hl [0, 1, 2, 3] rfl)

abbrev rm_X10_branch_ : Room := { frames := 3, cells := 0, slots := 0, locals := 68 }
def f_X10_branch__78 (s0 : Int32) (σ : Sta) : Option (Int32 × Sta) :=
  some (s0, σ)
set_option maxHeartbeats 4000000 in
set_option maxRecDepth 100000 in
theorem t_X10_branch__78 {l : Launch} {D : va_G} {Y : CYs} {E : Nat → Nat} {X : List Dsc} (hX : Lok (LM ++ X)) {p : Program} {e : Env} {s : State} {m : MethodId} {args : Array Value} {below : List Frame} {meth : Method} {c : Code} (hF : Fr p s m args meth c RX10 cX10_branch_ 6 (some .int) D Y E (LM ++ X)) {o : Int32 × Sta} : ∀ (s0 : Int32) (σ : Sta) (H : Heap) (locs : List Loc) (ls : Array Slot), f_X10_branch__78 s0 σ = some o → va_P D vwCl (wd Y E σ 0 (LM ++ X)) H → va_S (AF E (LM ++ X).length s.heap.size) s.heap H locs → lv_has ls 6 [] → WI p l e rm_X10_branch_ s m args below meth c (LM ++ X) Y D E o H locs (F0 m 78 ls [.int s0]) := by
  intro s0 σ H locs ls h hP hS hl
  unfold f_X10_branch__78 at h
  obtain ⟨hC, hb, hml, hr, hlk, hD, hSW⟩ := id hF
  have hx := hC.1
  exact x_iret hF hP hS h dX10_branch__78

def f_X10_branch_ (a1 : Int32) (a2 : Int32) (a3 : Int32) (a4 : Int32) (σ : Sta) : Option (Int32 × Sta) :=
  lt (sI σ 0 0) (fun σ1 =>
  bnd (f_X10_isChoice a1 a2 σ1) (fun r2 σ3 =>
  if r2 = 0 then
    bnd (f_X10_fail 1 σ3) (fun r22 σ23 =>
    some (r22, σ23))
  else
    lt ((16 * a1) + a2) (fun x6 =>
    bnd (f_X10_manyBranches x6 σ3) (fun r7 σ8 =>
    bnd (f_X10_isIn a3.toInt64 0 ((r7 - 1).toInt64) σ8) (fun r10 σ11 =>
    if r10 = 0 then
      bnd (f_X10_fail 1 σ11) (fun r19 σ20 =>
      some (r19, σ20))
    else
      if a4 = 0 then
        if (4 * x6) + a3 < 0 ∨ 6400 ≤ (((4 * x6) + a3).toNatClampNeg) then none else (
        f_X10_branch__78 (gA σ11 26 (((4 * x6) + a3).toNatClampNeg)) σ11)
      else
        bnd (f_X10_chanceOf x6 a3 σ11) (fun r16 σ17 =>
        f_X10_branch__78 r16 σ17))))))
set_option maxHeartbeats 4000000 in
set_option maxRecDepth 100000 in
theorem c_X10_branch_ {l : Launch} {D : va_G} {Y : CYs} {E : Nat → Nat} {X : List Dsc} (hX : Lok (LM ++ X)) {a1 : Int32} {a2 : Int32} {a3 : Int32} {a4 : Int32} {σ : Sta} {o : Int32 × Sta} (h : f_X10_branch_ a1 a2 a3 a4 σ = some o) : MI l yX10_branch_ (Cond.code yX10_branch_ cX10_branch_ 6 (some .int) :: gW) rm_X10_branch_ (LM ++ X) Y D E [.ref (E 0), .int a1, .int a2, .int a3, .int a4] σ o := by
  intro sz
  refine Met_of (Qc := fun sz => QI (LM ++ X) Y D E sz o) (by decide) (Nat.le_of_ble_eq_true rfl) (fun p e s m args below meth c hF hP ls hl => ?_) sz
  have hS : va_S (AF E (LM ++ X).length s.heap.size) s.heap s.heap [] := va_S.rf
  have hl : lv_has ls 6 [(0, .ref (E 0)), (1, .int a1), (2, .int a2), (3, .int a3), (4, .int a4)] := hl
  show WI p l e rm_X10_branch_ s m args below meth c (LM ++ X) Y D E o s.heap [] (F0 m 0 ls [])
  unfold f_X10_branch_ at h
  obtain ⟨hC, hb, hml, hr, hlk, hD, hSW⟩ := id hF
  have hx := hC.1
  refine lv_aload_n hx hb dX10_branch__0 rfl (lv_at hl 0 rfl) ?_
  refine lv_iconst (v := 0) hx hb dX10_branch__1 (by decide) ?_
  refine pf_X10_140 hX hC hb hP hD hS dX10_branch__2 (fun H locs σ1 eσ1 hP hS => ?_)
  have h := of_lt h eσ1
  refine lv_aload_n hx hb dX10_branch__5 rfl (lv_at hl 0 rfl) ?_
  refine lv_iload_n hx hb dX10_branch__6 rfl (lv_at hl 1 rfl) ?_
  refine lv_iload_n hx hb dX10_branch__7 rfl (lv_at hl 2 rfl) ?_
  obtain ⟨r2, σ3, g4, h⟩ := of_bnd h
  refine x_VI (As := [.int a1, .int a2]) (rest := []) hF hl hP hS (c_X10_isChoice hX g4) (cw_X10_398 hC rfl rfl ⟨Nat.le_of_ble_eq_true rfl, Nat.le_of_ble_eq_true rfl⟩) (lm_0 X) rfl rfl rfl (Nat.le_of_ble_eq_true rfl) dX10_branch__8 ⟨Nat.zero_le _, Nat.zero_le _⟩ (fun H locs hP hS => ?_)
  refine lv_if_ne (tgt := 20) hx hb dX10_branch__11 (by decide) (fun c5 => ?_) (fun c5 => ?_)
  · have h := of_f h c5
    refine lv_bipush (v := 16) hx hb dX10_branch__20 (by decide) ?_
    refine lv_iload_n hx hb dX10_branch__22 rfl (lv_at hl 1 rfl) ?_
    refine lv_imul hx hb dX10_branch__23 ?_
    refine lv_iload_n hx hb dX10_branch__24 rfl (lv_at hl 2 rfl) ?_
    refine lv_iadd hx hb dX10_branch__25 ?_
    refine lv_topi (fun x6 ex6 => ?_)
    have h := of_lt h ex6
    refine lv_istore (lv' := [(5, .int x6), (0, .ref (E 0)), (1, .int a1), (2, .int a2), (3, .int a3), (4, .int a4)]) hx hb dX10_branch__26 hl (by decide) rfl (fun ls hl => ?_)
    refine lv_iload_n hx hb dX10_branch__28 rfl (lv_at hl 4 rfl) ?_
    refine lv_i2l (v := a3.toInt64) hx hb dX10_branch__29 rfl ?_
    refine lv_lconst (v := 0) hx hb dX10_branch__30 (by decide) ?_
    refine lv_aload_n hx hb dX10_branch__31 rfl (lv_at hl 1 rfl) ?_
    refine lv_iload hx hb dX10_branch__32 (lv_at hl 0 rfl) ?_
    obtain ⟨r7, σ8, g9, h⟩ := of_bnd h
    refine x_VI (As := [.int x6]) (rest := [.long 0, .long a3.toInt64]) hF hl hP hS (c_X10_manyBranches hX g9) (cw_X10_402 hC rfl rfl ⟨Nat.le_of_ble_eq_true rfl, Nat.le_of_ble_eq_true rfl⟩) (lm_0 X) rfl rfl rfl (Nat.le_of_ble_eq_true rfl) dX10_branch__34 ⟨Nat.zero_le _, Nat.zero_le _⟩ (fun H locs hP hS => ?_)
    refine lv_iconst (v := 1) hx hb dX10_branch__37 (by decide) ?_
    refine lv_isub hx hb dX10_branch__38 ?_
    refine lv_i2l (v := (r7 - 1).toInt64) hx hb dX10_branch__39 rfl ?_
    obtain ⟨r10, σ11, g12, h⟩ := of_bnd h
    refine x_SI (As := [.long a3.toInt64, .long 0, .long ((r7 - 1).toInt64)]) (rest := []) hF hl hP hS (c_X10_isIn hX g12) (cw_X10_154 hC rfl rfl ⟨Nat.le_of_ble_eq_true rfl, Nat.le_of_ble_eq_true rfl⟩) rfl rfl (Nat.le_of_ble_eq_true rfl) dX10_branch__40 ⟨Nat.zero_le _, Nat.zero_le _⟩ (fun H locs hP hS => ?_)
    refine lv_if_ne (tgt := 52) hx hb dX10_branch__43 (by decide) (fun c13 => ?_) (fun c13 => ?_)
    · have h := of_f h c13
      refine lv_iload hx hb dX10_branch__52 (lv_at hl 5 rfl) ?_
      refine lv_if_eq (tgt := 67) hx hb dX10_branch__54 (by decide) (fun c14 => ?_) (fun c14 => ?_)
      · have h := of_t h c14
        refine lv_aload_n hx hb dX10_branch__67 rfl (lv_at hl 1 rfl) ?_
        refine gf_X10_91 hC hb hP dX10_branch__68 ?_
        refine lv_iconst (v := 4) hx hb dX10_branch__71 (by decide) ?_
        refine lv_iload hx hb dX10_branch__72 (lv_at hl 0 rfl) ?_
        refine lv_imul hx hb dX10_branch__74 ?_
        refine lv_iload_n hx hb dX10_branch__75 rfl (lv_at hl 4 rfl) ?_
        refine lv_iadd hx hb dX10_branch__76 ?_
        obtain ⟨g15, h⟩ := of_gd h
        refine x_iald hC hb hP (lm_26 X) g15 dX10_branch__77 ?_
        exact t_X10_branch__78 hX  hF (gA σ11 26 (((4 * x6) + a3).toNatClampNeg)) σ11 _ _ _ h hP hS (lv_sub hl [] rfl)
      · have h := of_f h c14
        refine lv_aload_n hx hb dX10_branch__57 rfl (lv_at hl 1 rfl) ?_
        refine lv_iload hx hb dX10_branch__58 (lv_at hl 0 rfl) ?_
        refine lv_iload_n hx hb dX10_branch__60 rfl (lv_at hl 4 rfl) ?_
        obtain ⟨r16, σ17, g18, h⟩ := of_bnd h
        refine x_VI (As := [.int x6, .int a3]) (rest := []) hF hl hP hS (c_X10_chanceOf hX g18) (cw_X10_405 hC rfl rfl ⟨Nat.le_of_ble_eq_true rfl, Nat.le_of_ble_eq_true rfl⟩) (lm_0 X) rfl rfl rfl (Nat.le_of_ble_eq_true rfl) dX10_branch__61 ⟨Nat.zero_le _, Nat.zero_le _⟩ (fun H locs hP hS => ?_)
        refine lv_goto (tgt := 78) hx hb dX10_branch__64 (by decide) ?_
        exact t_X10_branch__78 hX  hF r16 σ17 _ _ _ h hP hS (lv_sub hl [] rfl)
    · have h := of_t h c13
      refine lv_aload_n hx hb dX10_branch__46 rfl (lv_at hl 1 rfl) ?_
      refine lv_iconst (v := 1) hx hb dX10_branch__47 (by decide) ?_
      obtain ⟨r19, σ20, g21, h⟩ := of_bnd h
      refine x_VI (As := [.int 1]) (rest := []) hF hl hP hS (c_X10_fail hX g21) (cw_X10_146 hC rfl rfl ⟨Nat.le_of_ble_eq_true rfl, Nat.le_of_ble_eq_true rfl⟩) (lm_0 X) rfl rfl rfl (Nat.le_of_ble_eq_true rfl) dX10_branch__48 ⟨Nat.zero_le _, Nat.zero_le _⟩ (fun H locs hP hS => ?_)
      exact x_iret hF hP hS h dX10_branch__51
  · have h := of_t h c5
    refine lv_aload_n hx hb dX10_branch__14 rfl (lv_at hl 0 rfl) ?_
    refine lv_iconst (v := 1) hx hb dX10_branch__15 (by decide) ?_
    obtain ⟨r22, σ23, g24, h⟩ := of_bnd h
    refine x_VI (As := [.int 1]) (rest := []) hF hl hP hS (c_X10_fail hX g24) (cw_X10_146 hC rfl rfl ⟨Nat.le_of_ble_eq_true rfl, Nat.le_of_ble_eq_true rfl⟩) (lm_0 X) rfl rfl rfl (Nat.le_of_ble_eq_true rfl) dX10_branch__16 ⟨Nat.zero_le _, Nat.zero_le _⟩ (fun H locs hP hS => ?_)
    exact x_iret hF hP hS h dX10_branch__19

abbrev rm_X10_isStrategy : Room := { frames := 1, cells := 0, slots := 0, locals := 25 }
def f_X10_isStrategy (a1 : Int32) (σ : Sta) : Option (Int32 × Sta) :=
  bnd (f_X10_isIn a1.toInt64 0 (((gI σ 47) - 1).toInt64) σ) (fun r1 σ2 =>
  if ¬ (r1 = 0 ∨ r1 = 1) then none else (
  some (r1, σ2)))
set_option maxHeartbeats 4000000 in
set_option maxRecDepth 100000 in
theorem c_X10_isStrategy {l : Launch} {D : va_G} {Y : CYs} {E : Nat → Nat} {X : List Dsc} (hX : Lok (LM ++ X)) {a1 : Int32} {σ : Sta} {o : Int32 × Sta} (h : f_X10_isStrategy a1 σ = some o) : MI l yX10_isStrategy (Cond.code yX10_isStrategy cX10_isStrategy 2 (some .boolean) :: gW) rm_X10_isStrategy (LM ++ X) Y D E [.ref (E 0), .int a1] σ o := by
  intro sz
  refine Met_of (Qc := fun sz => QI (LM ++ X) Y D E sz o) (by decide) (Nat.le_of_ble_eq_true rfl) (fun p e s m args below meth c hF hP ls hl => ?_) sz
  have hS : va_S (AF E (LM ++ X).length s.heap.size) s.heap s.heap [] := va_S.rf
  have hl : lv_has ls 2 [(0, .ref (E 0)), (1, .int a1)] := hl
  show WI p l e rm_X10_isStrategy s m args below meth c (LM ++ X) Y D E o s.heap [] (F0 m 0 ls [])
  unfold f_X10_isStrategy at h
  obtain ⟨hC, hb, hml, hr, hlk, hD, hSW⟩ := id hF
  have hx := hC.1
  refine lv_iload_n hx hb dX10_isStrategy_0 rfl (lv_at hl 1 rfl) ?_
  refine lv_i2l (v := a1.toInt64) hx hb dX10_isStrategy_1 rfl ?_
  refine lv_lconst (v := 0) hx hb dX10_isStrategy_2 (by decide) ?_
  refine lv_aload_n hx hb dX10_isStrategy_3 rfl (lv_at hl 0 rfl) ?_
  refine gf_X10_216 hC hb hP dX10_isStrategy_4 ?_
  refine lv_iconst (v := 1) hx hb dX10_isStrategy_7 (by decide) ?_
  refine lv_isub hx hb dX10_isStrategy_8 ?_
  refine lv_i2l (v := ((gI σ 47) - 1).toInt64) hx hb dX10_isStrategy_9 rfl ?_
  obtain ⟨r1, σ2, g3, h⟩ := of_bnd h
  refine x_SI (As := [.long a1.toInt64, .long 0, .long (((gI σ 47) - 1).toInt64)]) (rest := []) hF hl hP hS (c_X10_isIn hX g3) (cw_X10_154 hC rfl rfl ⟨Nat.le_of_ble_eq_true rfl, Nat.le_of_ble_eq_true rfl⟩) rfl rfl (Nat.le_of_ble_eq_true rfl) dX10_isStrategy_10 ⟨Nat.zero_le _, Nat.zero_le _⟩ (fun H locs hP hS => ?_)
  obtain ⟨g4, h⟩ := of_gd h
  exact x_zret hF hP hS (zb g4) h dX10_isStrategy_13

abbrev rm_X10_isGain : Room := { frames := 1, cells := 0, slots := 0, locals := 25 }
def f_X10_isGain (a1 : Int32) (σ : Sta) : Option (Int32 × Sta) :=
  bnd (f_X10_isIn a1.toInt64 0 (((gI σ 15) - 1).toInt64) σ) (fun r1 σ2 =>
  if ¬ (r1 = 0 ∨ r1 = 1) then none else (
  some (r1, σ2)))
set_option maxHeartbeats 4000000 in
set_option maxRecDepth 100000 in
theorem c_X10_isGain {l : Launch} {D : va_G} {Y : CYs} {E : Nat → Nat} {X : List Dsc} (hX : Lok (LM ++ X)) {a1 : Int32} {σ : Sta} {o : Int32 × Sta} (h : f_X10_isGain a1 σ = some o) : MI l yX10_isGain (Cond.code yX10_isGain cX10_isGain 2 (some .boolean) :: gW) rm_X10_isGain (LM ++ X) Y D E [.ref (E 0), .int a1] σ o := by
  intro sz
  refine Met_of (Qc := fun sz => QI (LM ++ X) Y D E sz o) (by decide) (Nat.le_of_ble_eq_true rfl) (fun p e s m args below meth c hF hP ls hl => ?_) sz
  have hS : va_S (AF E (LM ++ X).length s.heap.size) s.heap s.heap [] := va_S.rf
  have hl : lv_has ls 2 [(0, .ref (E 0)), (1, .int a1)] := hl
  show WI p l e rm_X10_isGain s m args below meth c (LM ++ X) Y D E o s.heap [] (F0 m 0 ls [])
  unfold f_X10_isGain at h
  obtain ⟨hC, hb, hml, hr, hlk, hD, hSW⟩ := id hF
  have hx := hC.1
  refine lv_iload_n hx hb dX10_isGain_0 rfl (lv_at hl 1 rfl) ?_
  refine lv_i2l (v := a1.toInt64) hx hb dX10_isGain_1 rfl ?_
  refine lv_lconst (v := 0) hx hb dX10_isGain_2 (by decide) ?_
  refine lv_aload_n hx hb dX10_isGain_3 rfl (lv_at hl 0 rfl) ?_
  refine gf_X10_201 hC hb hP dX10_isGain_4 ?_
  refine lv_iconst (v := 1) hx hb dX10_isGain_7 (by decide) ?_
  refine lv_isub hx hb dX10_isGain_8 ?_
  refine lv_i2l (v := ((gI σ 15) - 1).toInt64) hx hb dX10_isGain_9 rfl ?_
  obtain ⟨r1, σ2, g3, h⟩ := of_bnd h
  refine x_SI (As := [.long a1.toInt64, .long 0, .long (((gI σ 15) - 1).toInt64)]) (rest := []) hF hl hP hS (c_X10_isIn hX g3) (cw_X10_154 hC rfl rfl ⟨Nat.le_of_ble_eq_true rfl, Nat.le_of_ble_eq_true rfl⟩) rfl rfl (Nat.le_of_ble_eq_true rfl) dX10_isGain_10 ⟨Nat.zero_le _, Nat.zero_le _⟩ (fun H locs hP hS => ?_)
  obtain ⟨g4, h⟩ := of_gd h
  exact x_zret hF hP hS (zb g4) h dX10_isGain_13
