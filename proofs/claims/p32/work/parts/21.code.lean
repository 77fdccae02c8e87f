theorem pf_X0_28 {p : Program} {l : Launch} {e : Env} {R : Room} {s : State} {m : MethodId} {args : Array Value} {below : List Frame} {meth : Method} {c : Code} {H : Heap} {locs : List Loc} {cells slots : Nat} {Q : State → Prop} {D : va_G} {Y : CYs} {E : Nat → Nat} {σ : Sta} {cc : ByteArray} {pc : Nat} {ls : Array Slot} {rest : List Value} {A : Nat → Prop} {H0 : Heap} {x : Int32} (hC : Ctx p s m args RX0 D Y) (hb : c.code = cc) (hP : va_P D vwCl (wd Y E σ 0 LC) H) (hD : ∀ τ, va_D A (wd Y E τ 0 LC)) (hS : va_S A H0 H locs) (hdg : decode cc pc = .ok (.putfield 28, 3)) (kk : ∀ (H1 : Heap) (locs1 : List Loc) (τ : Sta), τ = sI σ 130 x → va_P D vwCl (wd Y E τ 0 LC) H1 → va_S A H0 H1 locs1 → W p l e R s m args below meth c H1 locs1 cells slots Q (F0 m (pc + 3) ls rest)) : W p l e R s m args below meth c H locs cells slots Q (F0 m pc ls (.int x :: .ref (E 2) :: rest)) :=
  x_putI lokC hC hb hP hD hS inGX0 tyX0 tyX0_ok nmX0 lc_2 rfl 2 (by decide) rfl (gw_t (tb1 (List.mem_of_getElem? (i := 70) rfl)) rfl) rfl rfl rfl rfl rfl hdg kk
theorem pf_X0_32 {p : Program} {l : Launch} {e : Env} {R : Room} {s : State} {m : MethodId} {args : Array Value} {below : List Frame} {meth : Method} {c : Code} {H : Heap} {locs : List Loc} {cells slots : Nat} {Q : State → Prop} {D : va_G} {Y : CYs} {E : Nat → Nat} {σ : Sta} {cc : ByteArray} {pc : Nat} {ls : Array Slot} {rest : List Value} {A : Nat → Prop} {H0 : Heap} {x : Int32} (hC : Ctx p s m args RX0 D Y) (hb : c.code = cc) (hP : va_P D vwCl (wd Y E σ 0 LC) H) (hD : ∀ τ, va_D A (wd Y E τ 0 LC)) (hS : va_S A H0 H locs) (hdg : decode cc pc = .ok (.putfield 32, 3)) (kk : ∀ (H1 : Heap) (locs1 : List Loc) (τ : Sta), τ = sI σ 133 x → va_P D vwCl (wd Y E τ 0 LC) H1 → va_S A H0 H1 locs1 → W p l e R s m args below meth c H1 locs1 cells slots Q (F0 m (pc + 3) ls rest)) : W p l e R s m args below meth c H locs cells slots Q (F0 m pc ls (.int x :: .ref (E 2) :: rest)) :=
  x_putI lokC hC hb hP hD hS inGX0 tyX0 tyX0_ok nmX0 lc_2 rfl 5 (by decide) rfl (gw_t (tb1 (List.mem_of_getElem? (i := 73) rfl)) rfl) rfl rfl rfl rfl rfl hdg kk
theorem gf_X0_32 {p : Program} {l : Launch} {e : Env} {R : Room} {s : State} {m : MethodId} {args : Array Value} {below : List Frame} {meth : Method} {c : Code} {H : Heap} {locs : List Loc} {cells slots : Nat} {Q : State → Prop} {D : va_G} {Y : CYs} {E : Nat → Nat} {σ : Sta} {cc : ByteArray} {pc : Nat} {ls : Array Slot} {rest : List Value} (hC : Ctx p s m args RX0 D Y) (hb : c.code = cc) (hP : va_P D vwCl (wd Y E σ 0 LC) H) (hdg : decode cc pc = .ok (.getfield 32, 3)) (kk : W p l e R s m args below meth c H locs cells slots Q (F0 m (pc + 3) ls (.int (gI σ 133) :: rest))) : W p l e R s m args below meth c H locs cells slots Q (F0 m pc ls (.ref (E 2) :: rest)) :=
  x_getI hC hb hP inGX0 lc_2 rfl 5 (by decide) rfl (gw_t (tb1 (List.mem_of_getElem? (i := 73) rfl)) rfl) rfl hdg kk
theorem gf_X0_19 {p : Program} {l : Launch} {e : Env} {R : Room} {s : State} {m : MethodId} {args : Array Value} {below : List Frame} {meth : Method} {c : Code} {H : Heap} {locs : List Loc} {cells slots : Nat} {Q : State → Prop} {D : va_G} {Y : CYs} {E : Nat → Nat} {σ : Sta} {cc : ByteArray} {pc : Nat} {ls : Array Slot} {rest : List Value} (hC : Ctx p s m args RX0 D Y) (hb : c.code = cc) (hP : va_P D vwCl (wd Y E σ 0 LC) H) (hdg : decode cc pc = .ok (.getfield 19, 3)) (kk : W p l e R s m args below meth c H locs cells slots Q (F0 m (pc + 3) ls (.ref (E 16) :: rest))) : W p l e R s m args below meth c H locs cells slots Q (F0 m pc ls (.ref (E 2) :: rest)) :=
  x_getR hC hb hP inGX0 lc_2 rfl 3 (by decide) rfl (gw_t (tb1 (List.mem_of_getElem? (i := 71) rfl)) rfl) rfl hdg kk
theorem gf_X0_28 {p : Program} {l : Launch} {e : Env} {R : Room} {s : State} {m : MethodId} {args : Array Value} {below : List Frame} {meth : Method} {c : Code} {H : Heap} {locs : List Loc} {cells slots : Nat} {Q : State → Prop} {D : va_G} {Y : CYs} {E : Nat → Nat} {σ : Sta} {cc : ByteArray} {pc : Nat} {ls : Array Slot} {rest : List Value} (hC : Ctx p s m args RX0 D Y) (hb : c.code = cc) (hP : va_P D vwCl (wd Y E σ 0 LC) H) (hdg : decode cc pc = .ok (.getfield 28, 3)) (kk : W p l e R s m args below meth c H locs cells slots Q (F0 m (pc + 3) ls (.int (gI σ 130) :: rest))) : W p l e R s m args below meth c H locs cells slots Q (F0 m pc ls (.ref (E 2) :: rest)) :=
  x_getI hC hb hP inGX0 lc_2 rfl 2 (by decide) rfl (gw_t (tb1 (List.mem_of_getElem? (i := 70) rfl)) rfl) rfl hdg kk
theorem gf_X0_22 {p : Program} {l : Launch} {e : Env} {R : Room} {s : State} {m : MethodId} {args : Array Value} {below : List Frame} {meth : Method} {c : Code} {H : Heap} {locs : List Loc} {cells slots : Nat} {Q : State → Prop} {D : va_G} {Y : CYs} {E : Nat → Nat} {σ : Sta} {cc : ByteArray} {pc : Nat} {ls : Array Slot} {rest : List Value} (hC : Ctx p s m args RX0 D Y) (hb : c.code = cc) (hP : va_P D vwCl (wd Y E σ 0 LC) H) (hdg : decode cc pc = .ok (.getfield 22, 3)) (kk : W p l e R s m args below meth c H locs cells slots Q (F0 m (pc + 3) ls (.ref (E 17) :: rest))) : W p l e R s m args below meth c H locs cells slots Q (F0 m pc ls (.ref (E 2) :: rest)) :=
  x_getR hC hb hP inGX0 lc_2 rfl 4 (by decide) rfl (gw_t (tb1 (List.mem_of_getElem? (i := 72) rfl)) rfl) rfl hdg kk
theorem gf_X0_9 {p : Program} {l : Launch} {e : Env} {R : Room} {s : State} {m : MethodId} {args : Array Value} {below : List Frame} {meth : Method} {c : Code} {H : Heap} {locs : List Loc} {cells slots : Nat} {Q : State → Prop} {D : va_G} {Y : CYs} {E : Nat → Nat} {σ : Sta} {cc : ByteArray} {pc : Nat} {ls : Array Slot} {rest : List Value} (hC : Ctx p s m args RX0 D Y) (hb : c.code = cc) (hP : va_P D vwCl (wd Y E σ 0 LC) H) (hdg : decode cc pc = .ok (.getfield 9, 3)) (kk : W p l e R s m args below meth c H locs cells slots Q (F0 m (pc + 3) ls (.ref (E 14) :: rest))) : W p l e R s m args below meth c H locs cells slots Q (F0 m pc ls (.ref (E 2) :: rest)) :=
  x_getR hC hb hP inGX0 lc_2 rfl 0 (by decide) rfl (gw_t (tb1 (List.mem_of_getElem? (i := 68) rfl)) rfl) rfl hdg kk
theorem gf_X0_15 {p : Program} {l : Launch} {e : Env} {R : Room} {s : State} {m : MethodId} {args : Array Value} {below : List Frame} {meth : Method} {c : Code} {H : Heap} {locs : List Loc} {cells slots : Nat} {Q : State → Prop} {D : va_G} {Y : CYs} {E : Nat → Nat} {σ : Sta} {cc : ByteArray} {pc : Nat} {ls : Array Slot} {rest : List Value} (hC : Ctx p s m args RX0 D Y) (hb : c.code = cc) (hP : va_P D vwCl (wd Y E σ 0 LC) H) (hdg : decode cc pc = .ok (.getfield 15, 3)) (kk : W p l e R s m args below meth c H locs cells slots Q (F0 m (pc + 3) ls (.ref (E 15) :: rest))) : W p l e R s m args below meth c H locs cells slots Q (F0 m pc ls (.ref (E 2) :: rest)) :=
  x_getR hC hb hP inGX0 lc_2 rfl 1 (by decide) rfl (gw_t (tb1 (List.mem_of_getElem? (i := 69) rfl)) rfl) rfl hdg kk
theorem gf_X0_25 {p : Program} {l : Launch} {e : Env} {R : Room} {s : State} {m : MethodId} {args : Array Value} {below : List Frame} {meth : Method} {c : Code} {H : Heap} {locs : List Loc} {cells slots : Nat} {Q : State → Prop} {D : va_G} {Y : CYs} {E : Nat → Nat} {σ : Sta} {cc : ByteArray} {pc : Nat} {ls : Array Slot} {rest : List Value} (hC : Ctx p s m args RX0 D Y) (hb : c.code = cc) (hP : va_P D vwCl (wd Y E σ 0 LC) H) (hdg : decode cc pc = .ok (.getfield 25, 3)) (kk : W p l e R s m args below meth c H locs cells slots Q (F0 m (pc + 3) ls (.ref (E 18) :: rest))) : W p l e R s m args below meth c H locs cells slots Q (F0 m pc ls (.ref (E 2) :: rest)) :=
  x_getR hC hb hP inGX0 lc_2 rfl 6 (by decide) rfl (gw_t (tb1 (List.mem_of_getElem? (i := 74) rfl)) rfl) rfl hdg kk
theorem cw_X0_68 {R : Room} {p : Program} {s : State} {m : MethodId} {args : Array Value} {D : va_G} {Y : CYs} {rm : Room} (hC : Ctx p s m args RX0 D Y) (hrc : rm.cells = 0) (hrs : rm.slots = 0) (hR : rm.frames + 1 ≤ R.frames ∧ 8 + (5 + 11) + rm.locals ≤ R.locals) : CallB R s args RX0 68 yX0_isRelated cX0_isRelated 5 (some .boolean) (Cond.code yX0_isRelated cX0_isRelated 5 (some .boolean) :: gW) rm 0 0 3 ∧ (Cond.static yX0_isRelated).before args s = true :=
  ⟨callB_of 3 hC.2.1 (gi_law (gw_t (tb6 (List.mem_of_getElem? (i := 134) rfl)) rfl)) rfl hrc hrs (hC.2.1 (Cond.initialized RX0) (gw_t (tb1 (List.mem_of_getElem? (i := 3) rfl)) rfl)) (hC.2.1 (Cond.methodLink RX0 68 yX0_isRelated) (gw_t (tb6 (List.mem_of_getElem? (i := 132) rfl)) rfl)) ⟨by decide +kernel, by decide +kernel, by decide +kernel⟩ hR, hC.2.1 (Cond.static yX0_isRelated) (gw_t (tb6 (List.mem_of_getElem? (i := 133) rfl)) rfl)⟩
theorem cw_X0_43 {R : Room} {p : Program} {s : State} {m : MethodId} {args : Array Value} {D : va_G} {Y : CYs} {rm : Room} (hC : Ctx p s m args RX0 D Y) (hrc : rm.cells = 0) (hrs : rm.slots = 0) (hR : rm.frames + 1 ≤ R.frames ∧ 8 + (1 + 11) + rm.locals ≤ R.locals) : CallB R s args RX0 43 yX0_isUnary cX0_isUnary 1 (some .boolean) (Cond.code yX0_isUnary cX0_isUnary 1 (some .boolean) :: gW) rm 0 0 1 ∧ (Cond.static yX0_isUnary).before args s = true :=
  ⟨callB_of 1 hC.2.1 (gi_law (gw_t (tb6 (List.mem_of_getElem? (i := 116) rfl)) rfl)) rfl hrc hrs (hC.2.1 (Cond.initialized RX0) (gw_t (tb1 (List.mem_of_getElem? (i := 3) rfl)) rfl)) (hC.2.1 (Cond.methodLink RX0 43 yX0_isUnary) (gw_t (tb6 (List.mem_of_getElem? (i := 114) rfl)) rfl)) ⟨by decide +kernel, by decide +kernel, by decide +kernel⟩ hR, hC.2.1 (Cond.static yX0_isUnary) (gw_t (tb6 (List.mem_of_getElem? (i := 115) rfl)) rfl)⟩
theorem cw_X0_51 {R : Room} {p : Program} {s : State} {m : MethodId} {args : Array Value} {D : va_G} {Y : CYs} {rm : Room} (hC : Ctx p s m args RX0 D Y) (hrc : rm.cells = 0) (hrs : rm.slots = 0) (hR : rm.frames + 1 ≤ R.frames ∧ 8 + (5 + 11) + rm.locals ≤ R.locals) : CallB R s args RX0 51 yX0_binary cX0_binary 5 (some .long) (Cond.code yX0_binary cX0_binary 5 (some .long) :: gW) rm 0 0 3 ∧ (Cond.static yX0_binary).before args s = true :=
  ⟨callB_of 3 hC.2.1 (gi_law (gw_t (tb6 (List.mem_of_getElem? (i := 125) rfl)) rfl)) rfl hrc hrs (hC.2.1 (Cond.initialized RX0) (gw_t (tb1 (List.mem_of_getElem? (i := 3) rfl)) rfl)) (hC.2.1 (Cond.methodLink RX0 51 yX0_binary) (gw_t (tb6 (List.mem_of_getElem? (i := 123) rfl)) rfl)) ⟨by decide +kernel, by decide +kernel, by decide +kernel⟩ hR, hC.2.1 (Cond.static yX0_binary) (gw_t (tb6 (List.mem_of_getElem? (i := 124) rfl)) rfl)⟩
theorem cw_X0_47 {R : Room} {p : Program} {s : State} {m : MethodId} {args : Array Value} {D : va_G} {Y : CYs} {rm : Room} (hC : Ctx p s m args RX0 D Y) (hrc : rm.cells = 0) (hrs : rm.slots = 0) (hR : rm.frames + 1 ≤ R.frames ∧ 8 + (3 + 11) + rm.locals ≤ R.locals) : CallB R s args RX0 47 yX0_unary cX0_unary 3 (some .long) (Cond.code yX0_unary cX0_unary 3 (some .long) :: gW) rm 0 0 2 ∧ (Cond.static yX0_unary).before args s = true :=
  ⟨callB_of 2 hC.2.1 (gi_law (gw_t (tb6 (List.mem_of_getElem? (i := 119) rfl)) rfl)) rfl hrc hrs (hC.2.1 (Cond.initialized RX0) (gw_t (tb1 (List.mem_of_getElem? (i := 3) rfl)) rfl)) (hC.2.1 (Cond.methodLink RX0 47 yX0_unary) (gw_t (tb6 (List.mem_of_getElem? (i := 117) rfl)) rfl)) ⟨by decide +kernel, by decide +kernel, by decide +kernel⟩ hR, hC.2.1 (Cond.static yX0_unary) (gw_t (tb6 (List.mem_of_getElem? (i := 118) rfl)) rfl)⟩
theorem cw_X0_39 {R : Room} {p : Program} {s : State} {m : MethodId} {args : Array Value} {D : va_G} {Y : CYs} {rm : Room} (hC : Ctx p s m args RX0 D Y) (hrc : rm.cells = 0) (hrs : rm.slots = 0) (hR : rm.frames + 1 ≤ R.frames ∧ 8 + (2 + 11) + rm.locals ≤ R.locals) : va_CN R s args RX0 39 yX8_entry "MarkovBench" cX8_entry 2 (some .int) (Cond.code yX8_entry cX8_entry 2 (some .int) :: gW) rm 0 0 2 ∧ (Cond.static yX8_entry).before args s = true :=
  ⟨va_cnB 2 hC.2.1 (gi_law (gw_t (tb2 (List.mem_of_getElem? (i := 219) rfl)) rfl)) rfl hrc hrs (hC.2.2.2.2.1 (Cond.methodLinkNest RX0 39 yX8_entry "MarkovBench") (List.mem_of_getElem? (i := 55) rfl)) (hC.2.1 (Cond.initialized RX8) (gw_t (tb1 (List.mem_of_getElem? (i := 1) rfl)) rfl)) ⟨by decide +kernel, by decide +kernel, by decide +kernel⟩ hR, hC.2.1 _ (gw_t (tb2 (List.mem_of_getElem? (i := 218) rfl)) rfl)⟩
theorem cw_X0_35 {R : Room} {p : Program} {s : State} {m : MethodId} {args : Array Value} {D : va_G} {Y : CYs} {rm : Room} (hC : Ctx p s m args RX0 D Y) (hrc : rm.cells = 0) (hrs : rm.slots = 0) (hR : rm.frames + 1 ≤ R.frames ∧ 8 + (4 + 11) + rm.locals ≤ R.locals) : CallW R s args RX0 RX0 35 yX0_push cX0_push 4 (some .int) (Cond.code yX0_push cX0_push 4 (some .int) :: gW) rm 0 0 2 :=
  cwV 2 hC.2.1 (gi_V (gw_t (tb6 (List.mem_of_getElem? (i := 109) rfl)) rfl) (gw_t (tb6 (List.mem_of_getElem? (i := 111) rfl)) rfl) (gw_s (q := (⟨"MarkovBench$Code", "push", "(IJ)I"⟩, 7)) (lp4_ (List.mem_of_getElem? (i := 1) rfl))) (gw_t (tb1 (List.mem_of_getElem? (i := 3) rfl)) rfl) (gw_t (tb6 (List.mem_of_getElem? (i := 112) rfl)) rfl)) rfl hrc hrs ⟨rfl, by decide +kernel, by decide +kernel, by decide +kernel⟩ hR
theorem pf_X4_56 {p : Program} {l : Launch} {e : Env} {R : Room} {s : State} {m : MethodId} {args : Array Value} {below : List Frame} {meth : Method} {c : Code} {H : Heap} {locs : List Loc} {cells slots : Nat} {Q : State → Prop} {D : va_G} {Y : CYs} {E : Nat → Nat} {σ : Sta} {cc : ByteArray} {pc : Nat} {ls : Array Slot} {rest : List Value} {A : Nat → Prop} {H0 : Heap} {x : Int32} (hC : Ctx p s m args RX4 D Y) (hb : c.code = cc) (hP : va_P D vwCl (wd Y E σ 0 LC) H) (hD : ∀ τ, va_D A (wd Y E τ 0 LC)) (hS : va_S A H0 H locs) (hdg : decode cc pc = .ok (.putfield 56, 3)) (kk : ∀ (H1 : Heap) (locs1 : List Loc) (τ : Sta), τ = sI σ 192 x → va_P D vwCl (wd Y E τ 0 LC) H1 → va_S A H0 H1 locs1 → W p l e R s m args below meth c H1 locs1 cells slots Q (F0 m (pc + 3) ls rest)) : W p l e R s m args below meth c H locs cells slots Q (F0 m pc ls (.int x :: .ref (E 3) :: rest)) :=
  x_putI lokC hC hb hP hD hS inGX4 tyX4 tyX4_ok nmX4 lc_3 rfl 0 (by decide) rfl (gw_t (tb1 (List.mem_of_getElem? (i := 96) rfl)) rfl) rfl rfl rfl rfl rfl hdg kk
theorem pf_X4_59 {p : Program} {l : Launch} {e : Env} {R : Room} {s : State} {m : MethodId} {args : Array Value} {below : List Frame} {meth : Method} {c : Code} {H : Heap} {locs : List Loc} {cells slots : Nat} {Q : State → Prop} {D : va_G} {Y : CYs} {E : Nat → Nat} {σ : Sta} {cc : ByteArray} {pc : Nat} {ls : Array Slot} {rest : List Value} {A : Nat → Prop} {H0 : Heap} {x : Int32} (hC : Ctx p s m args RX4 D Y) (hb : c.code = cc) (hP : va_P D vwCl (wd Y E σ 0 LC) H) (hD : ∀ τ, va_D A (wd Y E τ 0 LC)) (hS : va_S A H0 H locs) (hdg : decode cc pc = .ok (.putfield 59, 3)) (kk : ∀ (H1 : Heap) (locs1 : List Loc) (τ : Sta), τ = sI σ 197 x → va_P D vwCl (wd Y E τ 0 LC) H1 → va_S A H0 H1 locs1 → W p l e R s m args below meth c H1 locs1 cells slots Q (F0 m (pc + 3) ls rest)) : W p l e R s m args below meth c H locs cells slots Q (F0 m pc ls (.int x :: .ref (E 3) :: rest)) :=
  x_putI lokC hC hb hP hD hS inGX4 tyX4 tyX4_ok nmX4 lc_3 rfl 5 (by decide) rfl (gw_t (tb1 (List.mem_of_getElem? (i := 107) rfl)) rfl) rfl rfl rfl rfl rfl hdg kk
theorem pf_X4_62 {p : Program} {l : Launch} {e : Env} {R : Room} {s : State} {m : MethodId} {args : Array Value} {below : List Frame} {meth : Method} {c : Code} {H : Heap} {locs : List Loc} {cells slots : Nat} {Q : State → Prop} {D : va_G} {Y : CYs} {E : Nat → Nat} {σ : Sta} {cc : ByteArray} {pc : Nat} {ls : Array Slot} {rest : List Value} {A : Nat → Prop} {H0 : Heap} {x : Int32} (hC : Ctx p s m args RX4 D Y) (hb : c.code = cc) (hP : va_P D vwCl (wd Y E σ 0 LC) H) (hD : ∀ τ, va_D A (wd Y E τ 0 LC)) (hS : va_S A H0 H locs) (hdg : decode cc pc = .ok (.putfield 62, 3)) (kk : ∀ (H1 : Heap) (locs1 : List Loc) (τ : Sta), τ = sI σ 202 x → va_P D vwCl (wd Y E τ 0 LC) H1 → va_S A H0 H1 locs1 → W p l e R s m args below meth c H1 locs1 cells slots Q (F0 m (pc + 3) ls rest)) : W p l e R s m args below meth c H locs cells slots Q (F0 m pc ls (.int x :: .ref (E 3) :: rest)) :=
  x_putI lokC hC hb hP hD hS inGX4 tyX4 tyX4_ok nmX4 lc_3 rfl 10 (by decide) rfl (gw_t (tb1 (List.mem_of_getElem? (i := 120) rfl)) rfl) rfl rfl rfl rfl rfl hdg kk
theorem pf_X4_34 {p : Program} {l : Launch} {e : Env} {R : Room} {s : State} {m : MethodId} {args : Array Value} {below : List Frame} {meth : Method} {c : Code} {H : Heap} {locs : List Loc} {cells slots : Nat} {Q : State → Prop} {D : va_G} {Y : CYs} {E : Nat → Nat} {σ : Sta} {cc : ByteArray} {pc : Nat} {ls : Array Slot} {rest : List Value} {A : Nat → Prop} {H0 : Heap} {x : Int32} (hC : Ctx p s m args RX4 D Y) (hb : c.code = cc) (hP : va_P D vwCl (wd Y E σ 0 LC) H) (hD : ∀ τ, va_D A (wd Y E τ 0 LC)) (hS : va_S A H0 H locs) (hdg : decode cc pc = .ok (.putfield 34, 3)) (kk : ∀ (H1 : Heap) (locs1 : List Loc) (τ : Sta), τ = sI σ 201 x → va_P D vwCl (wd Y E τ 0 LC) H1 → va_S A H0 H1 locs1 → W p l e R s m args below meth c H1 locs1 cells slots Q (F0 m (pc + 3) ls rest)) : W p l e R s m args below meth c H locs cells slots Q (F0 m pc ls (.int x :: .ref (E 3) :: rest)) :=
  x_putI lokC hC hb hP hD hS inGX4 tyX4 tyX4_ok nmX4 lc_3 rfl 9 (by decide) rfl (gw_t (tb1 (List.mem_of_getElem? (i := 117) rfl)) rfl) rfl rfl rfl rfl rfl hdg kk
theorem gf_X4_56 {p : Program} {l : Launch} {e : Env} {R : Room} {s : State} {m : MethodId} {args : Array Value} {below : List Frame} {meth : Method} {c : Code} {H : Heap} {locs : List Loc} {cells slots : Nat} {Q : State → Prop} {D : va_G} {Y : CYs} {E : Nat → Nat} {σ : Sta} {cc : ByteArray} {pc : Nat} {ls : Array Slot} {rest : List Value} (hC : Ctx p s m args RX4 D Y) (hb : c.code = cc) (hP : va_P D vwCl (wd Y E σ 0 LC) H) (hdg : decode cc pc = .ok (.getfield 56, 3)) (kk : W p l e R s m args below meth c H locs cells slots Q (F0 m (pc + 3) ls (.int (gI σ 192) :: rest))) : W p l e R s m args below meth c H locs cells slots Q (F0 m pc ls (.ref (E 3) :: rest)) :=
  x_getI hC hb hP inGX4 lc_3 rfl 0 (by decide) rfl (gw_t (tb1 (List.mem_of_getElem? (i := 96) rfl)) rfl) rfl hdg kk
theorem gf_X4_9 {p : Program} {l : Launch} {e : Env} {R : Room} {s : State} {m : MethodId} {args : Array Value} {below : List Frame} {meth : Method} {c : Code} {H : Heap} {locs : List Loc} {cells slots : Nat} {Q : State → Prop} {D : va_G} {Y : CYs} {E : Nat → Nat} {σ : Sta} {cc : ByteArray} {pc : Nat} {ls : Array Slot} {rest : List Value} (hC : Ctx p s m args RX4 D Y) (hb : c.code = cc) (hP : va_P D vwCl (wd Y E σ 0 LC) H) (hdg : decode cc pc = .ok (.getfield 9, 3)) (kk : W p l e R s m args below meth c H locs cells slots Q (F0 m (pc + 3) ls (.ref (E 19) :: rest))) : W p l e R s m args below meth c H locs cells slots Q (F0 m pc ls (.ref (E 3) :: rest)) :=
  x_getR hC hb hP inGX4 lc_3 rfl 1 (by decide) rfl (gw_t (tb1 (List.mem_of_getElem? (i := 100) rfl)) rfl) rfl hdg kk
theorem gf_X4_15 {p : Program} {l : Launch} {e : Env} {R : Room} {s : State} {m : MethodId} {args : Array Value} {below : List Frame} {meth : Method} {c : Code} {H : Heap} {locs : List Loc} {cells slots : Nat} {Q : State → Prop} {D : va_G} {Y : CYs} {E : Nat → Nat} {σ : Sta} {cc : ByteArray} {pc : Nat} {ls : Array Slot} {rest : List Value} (hC : Ctx p s m args RX4 D Y) (hb : c.code = cc) (hP : va_P D vwCl (wd Y E σ 0 LC) H) (hdg : decode cc pc = .ok (.getfield 15, 3)) (kk : W p l e R s m args below meth c H locs cells slots Q (F0 m (pc + 3) ls (.ref (E 20) :: rest))) : W p l e R s m args below meth c H locs cells slots Q (F0 m pc ls (.ref (E 3) :: rest)) :=
  x_getR hC hb hP inGX4 lc_3 rfl 2 (by decide) rfl (gw_t (tb1 (List.mem_of_getElem? (i := 101) rfl)) rfl) rfl hdg kk
theorem gf_X4_19 {p : Program} {l : Launch} {e : Env} {R : Room} {s : State} {m : MethodId} {args : Array Value} {below : List Frame} {meth : Method} {c : Code} {H : Heap} {locs : List Loc} {cells slots : Nat} {Q : State → Prop} {D : va_G} {Y : CYs} {E : Nat → Nat} {σ : Sta} {cc : ByteArray} {pc : Nat} {ls : Array Slot} {rest : List Value} (hC : Ctx p s m args RX4 D Y) (hb : c.code = cc) (hP : va_P D vwCl (wd Y E σ 0 LC) H) (hdg : decode cc pc = .ok (.getfield 19, 3)) (kk : W p l e R s m args below meth c H locs cells slots Q (F0 m (pc + 3) ls (.ref (E 21) :: rest))) : W p l e R s m args below meth c H locs cells slots Q (F0 m pc ls (.ref (E 3) :: rest)) :=
  x_getR hC hb hP inGX4 lc_3 rfl 3 (by decide) rfl (gw_t (tb1 (List.mem_of_getElem? (i := 103) rfl)) rfl) rfl hdg kk
theorem gf_X4_22 {p : Program} {l : Launch} {e : Env} {R : Room} {s : State} {m : MethodId} {args : Array Value} {below : List Frame} {meth : Method} {c : Code} {H : Heap} {locs : List Loc} {cells slots : Nat} {Q : State → Prop} {D : va_G} {Y : CYs} {E : Nat → Nat} {σ : Sta} {cc : ByteArray} {pc : Nat} {ls : Array Slot} {rest : List Value} (hC : Ctx p s m args RX4 D Y) (hb : c.code = cc) (hP : va_P D vwCl (wd Y E σ 0 LC) H) (hdg : decode cc pc = .ok (.getfield 22, 3)) (kk : W p l e R s m args below meth c H locs cells slots Q (F0 m (pc + 3) ls (.ref (E 22) :: rest))) : W p l e R s m args below meth c H locs cells slots Q (F0 m pc ls (.ref (E 3) :: rest)) :=
  x_getR hC hb hP inGX4 lc_3 rfl 4 (by decide) rfl (gw_t (tb1 (List.mem_of_getElem? (i := 105) rfl)) rfl) rfl hdg kk
theorem gf_X4_59 {p : Program} {l : Launch} {e : Env} {R : Room} {s : State} {m : MethodId} {args : Array Value} {below : List Frame} {meth : Method} {c : Code} {H : Heap} {locs : List Loc} {cells slots : Nat} {Q : State → Prop} {D : va_G} {Y : CYs} {E : Nat → Nat} {σ : Sta} {cc : ByteArray} {pc : Nat} {ls : Array Slot} {rest : List Value} (hC : Ctx p s m args RX4 D Y) (hb : c.code = cc) (hP : va_P D vwCl (wd Y E σ 0 LC) H) (hdg : decode cc pc = .ok (.getfield 59, 3)) (kk : W p l e R s m args below meth c H locs cells slots Q (F0 m (pc + 3) ls (.int (gI σ 197) :: rest))) : W p l e R s m args below meth c H locs cells slots Q (F0 m pc ls (.ref (E 3) :: rest)) :=
  x_getI hC hb hP inGX4 lc_3 rfl 5 (by decide) rfl (gw_t (tb1 (List.mem_of_getElem? (i := 107) rfl)) rfl) rfl hdg kk
theorem gf_X4_25 {p : Program} {l : Launch} {e : Env} {R : Room} {s : State} {m : MethodId} {args : Array Value} {below : List Frame} {meth : Method} {c : Code} {H : Heap} {locs : List Loc} {cells slots : Nat} {Q : State → Prop} {D : va_G} {Y : CYs} {E : Nat → Nat} {σ : Sta} {cc : ByteArray} {pc : Nat} {ls : Array Slot} {rest : List Value} (hC : Ctx p s m args RX4 D Y) (hb : c.code = cc) (hP : va_P D vwCl (wd Y E σ 0 LC) H) (hdg : decode cc pc = .ok (.getfield 25, 3)) (kk : W p l e R s m args below meth c H locs cells slots Q (F0 m (pc + 3) ls (.ref (E 23) :: rest))) : W p l e R s m args below meth c H locs cells slots Q (F0 m pc ls (.ref (E 3) :: rest)) :=
  x_getR hC hb hP inGX4 lc_3 rfl 6 (by decide) rfl (gw_t (tb1 (List.mem_of_getElem? (i := 112) rfl)) rfl) rfl hdg kk
theorem gf_X4_28 {p : Program} {l : Launch} {e : Env} {R : Room} {s : State} {m : MethodId} {args : Array Value} {below : List Frame} {meth : Method} {c : Code} {H : Heap} {locs : List Loc} {cells slots : Nat} {Q : State → Prop} {D : va_G} {Y : CYs} {E : Nat → Nat} {σ : Sta} {cc : ByteArray} {pc : Nat} {ls : Array Slot} {rest : List Value} (hC : Ctx p s m args RX4 D Y) (hb : c.code = cc) (hP : va_P D vwCl (wd Y E σ 0 LC) H) (hdg : decode cc pc = .ok (.getfield 28, 3)) (kk : W p l e R s m args below meth c H locs cells slots Q (F0 m (pc + 3) ls (.ref (E 24) :: rest))) : W p l e R s m args below meth c H locs cells slots Q (F0 m pc ls (.ref (E 3) :: rest)) :=
  x_getR hC hb hP inGX4 lc_3 rfl 7 (by decide) rfl (gw_t (tb1 (List.mem_of_getElem? (i := 113) rfl)) rfl) rfl hdg kk
theorem gf_X4_31 {p : Program} {l : Launch} {e : Env} {R : Room} {s : State} {m : MethodId} {args : Array Value} {below : List Frame} {meth : Method} {c : Code} {H : Heap} {locs : List Loc} {cells slots : Nat} {Q : State → Prop} {D : va_G} {Y : CYs} {E : Nat → Nat} {σ : Sta} {cc : ByteArray} {pc : Nat} {ls : Array Slot} {rest : List Value} (hC : Ctx p s m args RX4 D Y) (hb : c.code = cc) (hP : va_P D vwCl (wd Y E σ 0 LC) H) (hdg : decode cc pc = .ok (.getfield 31, 3)) (kk : W p l e R s m args below meth c H locs cells slots Q (F0 m (pc + 3) ls (.ref (E 25) :: rest))) : W p l e R s m args below meth c H locs cells slots Q (F0 m pc ls (.ref (E 3) :: rest)) :=
  x_getR hC hb hP inGX4 lc_3 rfl 8 (by decide) rfl (gw_t (tb1 (List.mem_of_getElem? (i := 115) rfl)) rfl) rfl hdg kk
theorem gf_X4_62 {p : Program} {l : Launch} {e : Env} {R : Room} {s : State} {m : MethodId} {args : Array Value} {below : List Frame} {meth : Method} {c : Code} {H : Heap} {locs : List Loc} {cells slots : Nat} {Q : State → Prop} {D : va_G} {Y : CYs} {E : Nat → Nat} {σ : Sta} {cc : ByteArray} {pc : Nat} {ls : Array Slot} {rest : List Value} (hC : Ctx p s m args RX4 D Y) (hb : c.code = cc) (hP : va_P D vwCl (wd Y E σ 0 LC) H) (hdg : decode cc pc = .ok (.getfield 62, 3)) (kk : W p l e R s m args below meth c H locs cells slots Q (F0 m (pc + 3) ls (.int (gI σ 202) :: rest))) : W p l e R s m args below meth c H locs cells slots Q (F0 m pc ls (.ref (E 3) :: rest)) :=
  x_getI hC hb hP inGX4 lc_3 rfl 10 (by decide) rfl (gw_t (tb1 (List.mem_of_getElem? (i := 120) rfl)) rfl) rfl hdg kk
theorem gf_X4_38 {p : Program} {l : Launch} {e : Env} {R : Room} {s : State} {m : MethodId} {args : Array Value} {below : List Frame} {meth : Method} {c : Code} {H : Heap} {locs : List Loc} {cells slots : Nat} {Q : State → Prop} {D : va_G} {Y : CYs} {E : Nat → Nat} {σ : Sta} {cc : ByteArray} {pc : Nat} {ls : Array Slot} {rest : List Value} (hC : Ctx p s m args RX4 D Y) (hb : c.code = cc) (hP : va_P D vwCl (wd Y E σ 0 LC) H) (hdg : decode cc pc = .ok (.getfield 38, 3)) (kk : W p l e R s m args below meth c H locs cells slots Q (F0 m (pc + 3) ls (.ref (E 26) :: rest))) : W p l e R s m args below meth c H locs cells slots Q (F0 m pc ls (.ref (E 3) :: rest)) :=
  x_getR hC hb hP inGX4 lc_3 rfl 11 (by decide) rfl (gw_t (tb1 (List.mem_of_getElem? (i := 124) rfl)) rfl) rfl hdg kk
theorem gf_X4_41 {p : Program} {l : Launch} {e : Env} {R : Room} {s : State} {m : MethodId} {args : Array Value} {below : List Frame} {meth : Method} {c : Code} {H : Heap} {locs : List Loc} {cells slots : Nat} {Q : State → Prop} {D : va_G} {Y : CYs} {E : Nat → Nat} {σ : Sta} {cc : ByteArray} {pc : Nat} {ls : Array Slot} {rest : List Value} (hC : Ctx p s m args RX4 D Y) (hb : c.code = cc) (hP : va_P D vwCl (wd Y E σ 0 LC) H) (hdg : decode cc pc = .ok (.getfield 41, 3)) (kk : W p l e R s m args below meth c H locs cells slots Q (F0 m (pc + 3) ls (.ref (E 27) :: rest))) : W p l e R s m args below meth c H locs cells slots Q (F0 m pc ls (.ref (E 3) :: rest)) :=
  x_getR hC hb hP inGX4 lc_3 rfl 12 (by decide) rfl (gw_t (tb1 (List.mem_of_getElem? (i := 125) rfl)) rfl) rfl hdg kk
theorem gf_X4_44 {p : Program} {l : Launch} {e : Env} {R : Room} {s : State} {m : MethodId} {args : Array Value} {below : List Frame} {meth : Method} {c : Code} {H : Heap} {locs : List Loc} {cells slots : Nat} {Q : State → Prop} {D : va_G} {Y : CYs} {E : Nat → Nat} {σ : Sta} {cc : ByteArray} {pc : Nat} {ls : Array Slot} {rest : List Value} (hC : Ctx p s m args RX4 D Y) (hb : c.code = cc) (hP : va_P D vwCl (wd Y E σ 0 LC) H) (hdg : decode cc pc = .ok (.getfield 44, 3)) (kk : W p l e R s m args below meth c H locs cells slots Q (F0 m (pc + 3) ls (.ref (E 28) :: rest))) : W p l e R s m args below meth c H locs cells slots Q (F0 m pc ls (.ref (E 3) :: rest)) :=
  x_getR hC hb hP inGX4 lc_3 rfl 13 (by decide) rfl (gw_t (tb1 (List.mem_of_getElem? (i := 127) rfl)) rfl) rfl hdg kk
theorem gf_X4_47 {p : Program} {l : Launch} {e : Env} {R : Room} {s : State} {m : MethodId} {args : Array Value} {below : List Frame} {meth : Method} {c : Code} {H : Heap} {locs : List Loc} {cells slots : Nat} {Q : State → Prop} {D : va_G} {Y : CYs} {E : Nat → Nat} {σ : Sta} {cc : ByteArray} {pc : Nat} {ls : Array Slot} {rest : List Value} (hC : Ctx p s m args RX4 D Y) (hb : c.code = cc) (hP : va_P D vwCl (wd Y E σ 0 LC) H) (hdg : decode cc pc = .ok (.getfield 47, 3)) (kk : W p l e R s m args below meth c H locs cells slots Q (F0 m (pc + 3) ls (.ref (E 29) :: rest))) : W p l e R s m args below meth c H locs cells slots Q (F0 m pc ls (.ref (E 3) :: rest)) :=
  x_getR hC hb hP inGX4 lc_3 rfl 14 (by decide) rfl (gw_t (tb1 (List.mem_of_getElem? (i := 129) rfl)) rfl) rfl hdg kk
theorem gf_X4_53 {p : Program} {l : Launch} {e : Env} {R : Room} {s : State} {m : MethodId} {args : Array Value} {below : List Frame} {meth : Method} {c : Code} {H : Heap} {locs : List Loc} {cells slots : Nat} {Q : State → Prop} {D : va_G} {Y : CYs} {E : Nat → Nat} {σ : Sta} {cc : ByteArray} {pc : Nat} {ls : Array Slot} {rest : List Value} (hC : Ctx p s m args RX4 D Y) (hb : c.code = cc) (hP : va_P D vwCl (wd Y E σ 0 LC) H) (hdg : decode cc pc = .ok (.getfield 53, 3)) (kk : W p l e R s m args below meth c H locs cells slots Q (F0 m (pc + 3) ls (.ref (E 31) :: rest))) : W p l e R s m args below meth c H locs cells slots Q (F0 m pc ls (.ref (E 3) :: rest)) :=
  x_getR hC hb hP inGX4 lc_3 rfl 16 (by decide) rfl (gw_t (tb1 (List.mem_of_getElem? (i := 133) rfl)) rfl) rfl hdg kk
theorem cw_X4_65 {R : Room} {p : Program} {s : State} {m : MethodId} {args : Array Value} {D : va_G} {Y : CYs} {rm : Room} (hC : Ctx p s m args RX4 D Y) (hrc : rm.cells = 0) (hrs : rm.slots = 0) (hR : rm.frames + 1 ≤ R.frames ∧ 8 + (1 + 11) + rm.locals ≤ R.locals) : CallW R s args RX4 RX4 65 yX4_latestBranches cX4_latestBranches 1 (some .int) (Cond.code yX4_latestBranches cX4_latestBranches 1 (some .int) :: gW) rm 0 0 0 :=
  cwV 0 hC.2.1 (gi_V (gw_t (tb6 (List.mem_of_getElem? (i := 75) rfl)) rfl) (gw_t (tb6 (List.mem_of_getElem? (i := 67) rfl)) rfl) (gw_t (tb6 (List.mem_of_getElem? (i := 68) rfl)) rfl) (gw_t (tb1 (List.mem_of_getElem? (i := 4) rfl)) rfl) (gw_t (tb6 (List.mem_of_getElem? (i := 69) rfl)) rfl)) rfl hrc hrs ⟨rfl, by decide +kernel, by decide +kernel, by decide +kernel⟩ hR
theorem gf_X4_50 {p : Program} {l : Launch} {e : Env} {R : Room} {s : State} {m : MethodId} {args : Array Value} {below : List Frame} {meth : Method} {c : Code} {H : Heap} {locs : List Loc} {cells slots : Nat} {Q : State → Prop} {D : va_G} {Y : CYs} {E : Nat → Nat} {σ : Sta} {cc : ByteArray} {pc : Nat} {ls : Array Slot} {rest : List Value} (hC : Ctx p s m args RX4 D Y) (hb : c.code = cc) (hP : va_P D vwCl (wd Y E σ 0 LC) H) (hdg : decode cc pc = .ok (.getfield 50, 3)) (kk : W p l e R s m args below meth c H locs cells slots Q (F0 m (pc + 3) ls (.ref (E 30) :: rest))) : W p l e R s m args below meth c H locs cells slots Q (F0 m pc ls (.ref (E 3) :: rest)) :=
  x_getR hC hb hP inGX4 lc_3 rfl 15 (by decide) rfl (gw_t (tb1 (List.mem_of_getElem? (i := 131) rfl)) rfl) rfl hdg kk
theorem cw_X4_69 {R : Room} {p : Program} {s : State} {m : MethodId} {args : Array Value} {D : va_G} {Y : CYs} {rm : Room} (hC : Ctx p s m args RX4 D Y) (hrc : rm.cells = 0) (hrs : rm.slots = 0) (hR : rm.frames + 1 ≤ R.frames ∧ 8 + (4 + 11) + rm.locals ≤ R.locals) : CallW R s args RX4 RX4 69 yX4_latestSetting cX4_latestSetting 4 (some .int) (Cond.code yX4_latestSetting cX4_latestSetting 4 (some .int) :: gW) rm 0 0 1 :=
  cwV 1 hC.2.1 (gi_V (gw_t (tb6 (List.mem_of_getElem? (i := 80) rfl)) rfl) (gw_t (tb6 (List.mem_of_getElem? (i := 82) rfl)) rfl) (gw_s (q := (⟨"MarkovBench$Program", "latestSetting", "(I)I"⟩, 17)) (lp3_ (List.mem_of_getElem? (i := 14) rfl))) (gw_t (tb1 (List.mem_of_getElem? (i := 4) rfl)) rfl) (gw_t (tb6 (List.mem_of_getElem? (i := 83) rfl)) rfl)) rfl hrc hrs ⟨rfl, by decide +kernel, by decide +kernel, by decide +kernel⟩ hR
theorem cw_X4_73 {R : Room} {p : Program} {s : State} {m : MethodId} {args : Array Value} {D : va_G} {Y : CYs} {rm : Room} (hC : Ctx p s m args RX4 D Y) (hrc : rm.cells = 0) (hrs : rm.slots = 0) (hR : rm.frames + 1 ≤ R.frames ∧ 8 + (5 + 11) + rm.locals ≤ R.locals) : CallB R s args RX4 73 yX4_indexOf cX4_indexOf 5 (some .int) (Cond.code yX4_indexOf cX4_indexOf 5 (some .int) :: gW) rm 0 0 3 ∧ (Cond.static yX4_indexOf).before args s = true :=
  ⟨callB_of 3 hC.2.1 (gi_law (gw_t (tb5 (List.mem_of_getElem? (i := 227) rfl)) rfl)) rfl hrc hrs (hC.2.1 (Cond.initialized RX4) (gw_t (tb1 (List.mem_of_getElem? (i := 4) rfl)) rfl)) (hC.2.1 (Cond.methodLink RX4 73 yX4_indexOf) (gw_t (tb5 (List.mem_of_getElem? (i := 225) rfl)) rfl)) ⟨by decide +kernel, by decide +kernel, by decide +kernel⟩ hR, hC.2.1 (Cond.static yX4_indexOf) (gw_t (tb5 (List.mem_of_getElem? (i := 226) rfl)) rfl)⟩
theorem cw_X4_77 {R : Room} {p : Program} {s : State} {m : MethodId} {args : Array Value} {D : va_G} {Y : CYs} {rm : Room} (hC : Ctx p s m args RX4 D Y) (hrc : rm.cells = 0) (hrs : rm.slots = 0) (hR : rm.frames + 1 ≤ R.frames ∧ 8 + (3 + 11) + rm.locals ≤ R.locals) : CallW R s args RX4 RX4 77 yX4_variableNamed cX4_variableNamed 3 (some .int) (Cond.code yX4_variableNamed cX4_variableNamed 3 (some .int) :: gW) rm 0 0 1 :=
  cwV 1 hC.2.1 (gi_V (gw_t (tb5 (List.mem_of_getElem? (i := 221) rfl)) rfl) (gw_t (tb5 (List.mem_of_getElem? (i := 222) rfl)) rfl) (gw_t (tb5 (List.mem_of_getElem? (i := 223) rfl)) rfl) (gw_t (tb1 (List.mem_of_getElem? (i := 4) rfl)) rfl) (gw_t (tb5 (List.mem_of_getElem? (i := 224) rfl)) rfl)) rfl hrc hrs ⟨rfl, by decide +kernel, by decide +kernel, by decide +kernel⟩ hR
abbrev rm_X0_clear : Room := { frames := 0, cells := 0, slots := 0, locals := 0 }
def f_X0_clear (σ : Sta) : Option (Unit × Sta) :=
  lt (sI σ 130 0) (fun σ1 =>
  lt (sI σ1 133 0) (fun σ2 =>
  some ((), σ2)))
set_option maxHeartbeats 4000000 in
set_option maxRecDepth 100000 in
theorem c_X0_clear {l : Launch} {D : va_G} {Y : CYs} {E : Nat → Nat} {σ : Sta} {o : Unit × Sta} (h : f_X0_clear σ = some o) : MV l yX0_clear (Cond.code yX0_clear cX0_clear 1 none :: gW) rm_X0_clear LC Y D E [.ref (E 2)] σ o := by
  intro sz
  refine Met_of (Qc := fun sz => QV LC Y D E sz o) (by decide) (Nat.le_of_ble_eq_true rfl) (fun p e s m args below meth c hF hP ls hl => ?_) sz
  have hS : va_S (AF E LC.length s.heap.size) s.heap s.heap [] := va_S.rf
  have hl : lv_has ls 1 [(0, .ref (E 2))] := hl
  show WV p l e rm_X0_clear s m args below meth c LC Y D E o s.heap [] (F0 m 0 ls [])
  unfold f_X0_clear at h
  obtain ⟨hC, hb, hml, hr, hlk, hD, hSW⟩ := id hF
  have hx := hC.1
  refine lv_aload_n hx hb dX0_clear_0 rfl (lv_at hl 0 rfl) ?_
  refine lv_iconst (v := 0) hx hb dX0_clear_1 (by decide) ?_
  refine pf_X0_28 hC hb hP hD hS dX0_clear_2 (fun H locs σ1 eσ1 hP hS => ?_)
  have h := of_lt h eσ1
  refine lv_aload_n hx hb dX0_clear_5 rfl (lv_at hl 0 rfl) ?_
  refine lv_iconst (v := 0) hx hb dX0_clear_6 (by decide) ?_
  refine pf_X0_32 hC hb hP hD hS dX0_clear_7 (fun H locs σ2 eσ2 hP hS => ?_)
  have h := of_lt h eσ2
  exact x_vret hF hP hS h dX0_clear_10

abbrev rm_X0_beginExpression : Room := { frames := 0, cells := 0, slots := 0, locals := 0 }
def f_X0_beginExpression (σ : Sta) : Option (Int32 × Sta) :=
  if gI σ 133 < 1500 then
    if gI σ 133 < 0 ∨ 1500 ≤ ((gI σ 133).toNatClampNeg) then none else (
    lt (sA σ 16 (upd (gA σ 16) ((gI σ 133).toNatClampNeg) (gI σ 130))) (fun σ3 =>
    if gI σ3 133 < 0 ∨ 1500 ≤ ((gI σ3 133).toNatClampNeg) then none else (
    lt (sA σ3 17 (upd (gA σ3 17) ((gI σ3 133).toNatClampNeg) (gI σ3 130))) (fun σ5 =>
    lt (sI σ5 133 ((gI σ5 133) + 1)) (fun σ6 =>
    some ((gI σ6 133) - 1, σ6))))))
  else
    some (-1, σ)
set_option maxHeartbeats 4000000 in
set_option maxRecDepth 100000 in
theorem c_X0_beginExpression {l : Launch} {D : va_G} {Y : CYs} {E : Nat → Nat} {σ : Sta} {o : Int32 × Sta} (h : f_X0_beginExpression σ = some o) : MI l yX0_beginExpression (Cond.code yX0_beginExpression cX0_beginExpression 1 (some .int) :: gW) rm_X0_beginExpression LC Y D E [.ref (E 2)] σ o := by
  intro sz
  refine Met_of (Qc := fun sz => QI LC Y D E sz o) (by decide) (Nat.le_of_ble_eq_true rfl) (fun p e s m args below meth c hF hP ls hl => ?_) sz
  have hS : va_S (AF E LC.length s.heap.size) s.heap s.heap [] := va_S.rf
  have hl : lv_has ls 1 [(0, .ref (E 2))] := hl
  show WI p l e rm_X0_beginExpression s m args below meth c LC Y D E o s.heap [] (F0 m 0 ls [])
  unfold f_X0_beginExpression at h
  obtain ⟨hC, hb, hml, hr, hlk, hD, hSW⟩ := id hF
  have hx := hC.1
  refine lv_aload_n hx hb dX0_beginExpression_0 rfl (lv_at hl 0 rfl) ?_
  refine gf_X0_32 hC hb hP dX0_beginExpression_1 ?_
  refine lv_aload_n hx hb dX0_beginExpression_4 rfl (lv_at hl 0 rfl) ?_
  refine gf_X0_19 hC hb hP dX0_beginExpression_5 ?_
  refine x_alen (v := 1500) hC hb hP lc_16 (Or.inl rfl) (by decide) dX0_beginExpression_8 ?_
  refine lv_icmp_lt (tgt := 14) hx hb dX0_beginExpression_9 (by decide) (fun c1 => ?_) (fun c1 => ?_)
  · have h := of_t h c1
    refine lv_aload_n hx hb dX0_beginExpression_14 rfl (lv_at hl 0 rfl) ?_
    refine gf_X0_19 hC hb hP dX0_beginExpression_15 ?_
    refine lv_aload_n hx hb dX0_beginExpression_18 rfl (lv_at hl 0 rfl) ?_
    refine gf_X0_32 hC hb hP dX0_beginExpression_19 ?_
    refine lv_aload_n hx hb dX0_beginExpression_22 rfl (lv_at hl 0 rfl) ?_
    refine gf_X0_28 hC hb hP dX0_beginExpression_23 ?_
    obtain ⟨g2, h⟩ := of_gd h
    refine x_iast lokC hC hb hP hD hS lc_16 g2 dX0_beginExpression_26 (fun H locs σ3 eσ3 hP hS => ?_)
    have h := of_lt h eσ3
    refine lv_aload_n hx hb dX0_beginExpression_27 rfl (lv_at hl 0 rfl) ?_
    refine gf_X0_22 hC hb hP dX0_beginExpression_28 ?_
    refine lv_aload_n hx hb dX0_beginExpression_31 rfl (lv_at hl 0 rfl) ?_
    refine gf_X0_32 hC hb hP dX0_beginExpression_32 ?_
    refine lv_aload_n hx hb dX0_beginExpression_35 rfl (lv_at hl 0 rfl) ?_
    refine gf_X0_28 hC hb hP dX0_beginExpression_36 ?_
    obtain ⟨g4, h⟩ := of_gd h
    refine x_iast lokC hC hb hP hD hS lc_17 g4 dX0_beginExpression_39 (fun H locs σ5 eσ5 hP hS => ?_)
    have h := of_lt h eσ5
    refine lv_aload_n hx hb dX0_beginExpression_40 rfl (lv_at hl 0 rfl) ?_
    refine lv_dup hx hb dX0_beginExpression_41 rfl ?_
    refine gf_X0_32 hC hb hP dX0_beginExpression_42 ?_
    refine lv_iconst (v := 1) hx hb dX0_beginExpression_45 (by decide) ?_
    refine lv_iadd hx hb dX0_beginExpression_46 ?_
    refine pf_X0_32 hC hb hP hD hS dX0_beginExpression_47 (fun H locs σ6 eσ6 hP hS => ?_)
    have h := of_lt h eσ6
    refine lv_aload_n hx hb dX0_beginExpression_50 rfl (lv_at hl 0 rfl) ?_
    refine gf_X0_32 hC hb hP dX0_beginExpression_51 ?_
    refine lv_iconst (v := 1) hx hb dX0_beginExpression_54 (by decide) ?_
    refine lv_isub hx hb dX0_beginExpression_55 ?_
    exact x_iret hF hP hS h dX0_beginExpression_56
  · have h := of_f h c1
    refine lv_iconst (v := -1) hx hb dX0_beginExpression_12 (by decide) ?_
    exact x_iret hF hP hS h dX0_beginExpression_13

abbrev rm_X0_add : Room := { frames := 0, cells := 0, slots := 0, locals := 0 }
def f_X0_add_64 (σ : Sta) : Option (Unit × Sta) :=
  some ((), σ)
set_option maxHeartbeats 4000000 in
set_option maxRecDepth 100000 in
theorem t_X0_add_64 {l : Launch} {D : va_G} {Y : CYs} {E : Nat → Nat} {p : Program} {e : Env} {s : State} {m : MethodId} {args : Array Value} {below : List Frame} {meth : Method} {c : Code} (hF : Fr p s m args meth c RX0 cX0_add 4 none D Y E LC) {o : Unit × Sta} : ∀ (σ : Sta) (H : Heap) (locs : List Loc) (ls : Array Slot), f_X0_add_64 σ = some o → va_P D vwCl (wd Y E σ 0 LC) H → va_S (AF E LC.length s.heap.size) s.heap H locs → lv_has ls 4 [] → WV p l e rm_X0_add s m args below meth c LC Y D E o H locs (F0 m 64 ls []) := by
  intro σ H locs ls h hP hS hl
  unfold f_X0_add_64 at h
  obtain ⟨hC, hb, hml, hr, hlk, hD, hSW⟩ := id hF
  have hx := hC.1
  exact x_vret hF hP hS h dX0_add_64

def f_X0_add (a1 : Int32) (a2 : Int64) (σ : Sta) : Option (Unit × Sta) :=
  if 1500 ≤ gI σ 130 then
    f_X0_add_64 σ
  else
    if gI σ 133 ≤ 0 then
      f_X0_add_64 σ
    else
      if gI σ 130 < 0 ∨ 1500 ≤ ((gI σ 130).toNatClampNeg) then none else (
      lt (sA σ 14 (upd (gA σ 14) ((gI σ 130).toNatClampNeg) a1)) (fun σ4 =>
      if gI σ4 130 < 0 ∨ 1500 ≤ ((gI σ4 130).toNatClampNeg) then none else (
      lt (sJ σ4 15 (vp_updL (gJ σ4 15) ((gI σ4 130).toNatClampNeg) a2)) (fun σ6 =>
      lt (sI σ6 130 ((gI σ6 130) + 1)) (fun σ7 =>
      if (gI σ7 133) - 1 < 0 ∨ 1500 ≤ (((gI σ7 133) - 1).toNatClampNeg) then none else (
      lt (sA σ7 17 (upd (gA σ7 17) (((gI σ7 133) - 1).toNatClampNeg) (gI σ7 130))) (fun σ9 =>
      f_X0_add_64 σ9)))))))
set_option maxHeartbeats 4000000 in
set_option maxRecDepth 100000 in
theorem c_X0_add {l : Launch} {D : va_G} {Y : CYs} {E : Nat → Nat} {a1 : Int32} {a2 : Int64} {σ : Sta} {o : Unit × Sta} (h : f_X0_add a1 a2 σ = some o) : MV l yX0_add (Cond.code yX0_add cX0_add 4 none :: gW) rm_X0_add LC Y D E [.ref (E 2), .int a1, .long a2] σ o := by
  intro sz
  refine Met_of (Qc := fun sz => QV LC Y D E sz o) (by decide) (Nat.le_of_ble_eq_true rfl) (fun p e s m args below meth c hF hP ls hl => ?_) sz
  have hS : va_S (AF E LC.length s.heap.size) s.heap s.heap [] := va_S.rf
  have hl : lv_has ls 4 [(0, .ref (E 2)), (1, .int a1), (2, .long a2)] := hl
  show WV p l e rm_X0_add s m args below meth c LC Y D E o s.heap [] (F0 m 0 ls [])
  unfold f_X0_add at h
  obtain ⟨hC, hb, hml, hr, hlk, hD, hSW⟩ := id hF
  have hx := hC.1
  refine lv_aload_n hx hb dX0_add_0 rfl (lv_at hl 0 rfl) ?_
  refine gf_X0_28 hC hb hP dX0_add_1 ?_
  refine lv_aload_n hx hb dX0_add_4 rfl (lv_at hl 0 rfl) ?_
  refine gf_X0_9 hC hb hP dX0_add_5 ?_
  refine x_alen (v := 1500) hC hb hP lc_14 (Or.inl rfl) (by decide) dX0_add_8 ?_
  refine lv_icmp_ge (tgt := 64) hx hb dX0_add_9 (by decide) (fun c1 => ?_) (fun c1 => ?_)
  · have h := of_t h c1
    exact t_X0_add_64  hF σ _ _ _ h hP hS (lv_sub hl [] rfl)
  · have h := of_f h c1
    refine lv_aload_n hx hb dX0_add_12 rfl (lv_at hl 0 rfl) ?_
    refine gf_X0_32 hC hb hP dX0_add_13 ?_
    refine lv_if_le (tgt := 64) hx hb dX0_add_16 (by decide) (fun c2 => ?_) (fun c2 => ?_)
    · have h := of_t h c2
      exact t_X0_add_64  hF σ _ _ _ h hP hS (lv_sub hl [] rfl)
    · have h := of_f h c2
      refine lv_aload_n hx hb dX0_add_19 rfl (lv_at hl 0 rfl) ?_
      refine gf_X0_9 hC hb hP dX0_add_20 ?_
      refine lv_aload_n hx hb dX0_add_23 rfl (lv_at hl 0 rfl) ?_
      refine gf_X0_28 hC hb hP dX0_add_24 ?_
      refine lv_iload_n hx hb dX0_add_27 rfl (lv_at hl 1 rfl) ?_
      obtain ⟨g3, h⟩ := of_gd h
      refine x_iast lokC hC hb hP hD hS lc_14 g3 dX0_add_28 (fun H locs σ4 eσ4 hP hS => ?_)
      have h := of_lt h eσ4
      refine lv_aload_n hx hb dX0_add_29 rfl (lv_at hl 0 rfl) ?_
      refine gf_X0_15 hC hb hP dX0_add_30 ?_
      refine lv_aload_n hx hb dX0_add_33 rfl (lv_at hl 0 rfl) ?_
      refine gf_X0_28 hC hb hP dX0_add_34 ?_
      refine lv_lload_n hx hb dX0_add_37 rfl (lv_at hl 2 rfl) ?_
      obtain ⟨g5, h⟩ := of_gd h
      refine x_last lokC hC hb hP hD hS lc_15 g5 dX0_add_38 (fun H locs σ6 eσ6 hP hS => ?_)
      have h := of_lt h eσ6
      refine lv_aload_n hx hb dX0_add_39 rfl (lv_at hl 0 rfl) ?_
      refine lv_dup hx hb dX0_add_40 rfl ?_
      refine gf_X0_28 hC hb hP dX0_add_41 ?_
      refine lv_iconst (v := 1) hx hb dX0_add_44 (by decide) ?_
      refine lv_iadd hx hb dX0_add_45 ?_
      refine pf_X0_28 hC hb hP hD hS dX0_add_46 (fun H locs σ7 eσ7 hP hS => ?_)
      have h := of_lt h eσ7
      refine lv_aload_n hx hb dX0_add_49 rfl (lv_at hl 0 rfl) ?_
      refine gf_X0_22 hC hb hP dX0_add_50 ?_
      refine lv_aload_n hx hb dX0_add_53 rfl (lv_at hl 0 rfl) ?_
      refine gf_X0_32 hC hb hP dX0_add_54 ?_
      refine lv_iconst (v := 1) hx hb dX0_add_57 (by decide) ?_
      refine lv_isub hx hb dX0_add_58 ?_
      refine lv_aload_n hx hb dX0_add_59 rfl (lv_at hl 0 rfl) ?_
      refine gf_X0_28 hC hb hP dX0_add_60 ?_
      obtain ⟨g8, h⟩ := of_gd h
      refine x_iast lokC hC hb hP hD hS lc_17 g8 dX0_add_63 (fun H locs σ9 eσ9 hP hS => ?_)
      have h := of_lt h eσ9
      exact t_X0_add_64  hF σ9 _ _ _ h hP hS (lv_sub hl [] rfl)

abbrev rm_X0_push : Room := { frames := 0, cells := 0, slots := 0, locals := 0 }
def f_X0_push (a1 : Int32) (a2 : Int64) (σ : Sta) : Option (Int32 × Sta) :=
  if a1 < 60 then
    if a1 < 0 ∨ 60 ≤ (a1.toNatClampNeg) then none else (
    lt (sJ σ 18 (vp_updL (gJ σ 18) (a1.toNatClampNeg) a2)) (fun σ3 =>
    some (a1 + 1, σ3)))
  else
    some (a1, σ)
set_option maxHeartbeats 4000000 in
set_option maxRecDepth 100000 in
theorem c_X0_push {l : Launch} {D : va_G} {Y : CYs} {E : Nat → Nat} {a1 : Int32} {a2 : Int64} {σ : Sta} {o : Int32 × Sta} (h : f_X0_push a1 a2 σ = some o) : MI l yX0_push (Cond.code yX0_push cX0_push 4 (some .int) :: gW) rm_X0_push LC Y D E [.ref (E 2), .int a1, .long a2] σ o := by
  intro sz
  refine Met_of (Qc := fun sz => QI LC Y D E sz o) (by decide) (Nat.le_of_ble_eq_true rfl) (fun p e s m args below meth c hF hP ls hl => ?_) sz
  have hS : va_S (AF E LC.length s.heap.size) s.heap s.heap [] := va_S.rf
  have hl : lv_has ls 4 [(0, .ref (E 2)), (1, .int a1), (2, .long a2)] := hl
  show WI p l e rm_X0_push s m args below meth c LC Y D E o s.heap [] (F0 m 0 ls [])
  unfold f_X0_push at h
  obtain ⟨hC, hb, hml, hr, hlk, hD, hSW⟩ := id hF
  have hx := hC.1
  refine lv_iload_n hx hb dX0_push_0 rfl (lv_at hl 1 rfl) ?_
  refine lv_aload_n hx hb dX0_push_1 rfl (lv_at hl 0 rfl) ?_
  refine gf_X0_25 hC hb hP dX0_push_2 ?_
  refine x_alen (v := 60) hC hb hP lc_18 (Or.inr (Or.inl rfl)) (by decide) dX0_push_5 ?_
  refine lv_icmp_lt (tgt := 11) hx hb dX0_push_6 (by decide) (fun c1 => ?_) (fun c1 => ?_)
  · have h := of_t h c1
    refine lv_aload_n hx hb dX0_push_11 rfl (lv_at hl 0 rfl) ?_
    refine gf_X0_25 hC hb hP dX0_push_12 ?_
    refine lv_iload_n hx hb dX0_push_15 rfl (lv_at hl 1 rfl) ?_
    refine lv_lload_n hx hb dX0_push_16 rfl (lv_at hl 2 rfl) ?_
    obtain ⟨g2, h⟩ := of_gd h
    refine x_last lokC hC hb hP hD hS lc_18 g2 dX0_push_17 (fun H locs σ3 eσ3 hP hS => ?_)
    have h := of_lt h eσ3
    refine lv_iload_n hx hb dX0_push_18 rfl (lv_at hl 1 rfl) ?_
    refine lv_iconst (v := 1) hx hb dX0_push_19 (by decide) ?_
    refine lv_iadd hx hb dX0_push_20 ?_
    exact x_iret hF hP hS h dX0_push_21
  · have h := of_f h c1
    refine lv_iload_n hx hb dX0_push_9 rfl (lv_at hl 1 rfl) ?_
    exact x_iret hF hP hS h dX0_push_10

abbrev rm_X0_isUnary : Room := { frames := 0, cells := 0, slots := 0, locals := 0 }
def f_X0_isUnary_26 (s0 : Int32) (σ : Sta) : Option (Int32 × Sta) :=
  if ¬ (s0 = 0 ∨ s0 = 1) then none else (
  some (s0, σ))
set_option maxHeartbeats 4000000 in
set_option maxRecDepth 100000 in
theorem t_X0_isUnary_26 {l : Launch} {D : va_G} {Y : CYs} {E : Nat → Nat} {p : Program} {e : Env} {s : State} {m : MethodId} {args : Array Value} {below : List Frame} {meth : Method} {c : Code} (hF : Fr p s m args meth c RX0 cX0_isUnary 1 (some .boolean) D Y E LC) {o : Int32 × Sta} : ∀ (s0 : Int32) (σ : Sta) (H : Heap) (locs : List Loc) (ls : Array Slot), f_X0_isUnary_26 s0 σ = some o → va_P D vwCl (wd Y E σ 0 LC) H → va_S (AF E LC.length s.heap.size) s.heap H locs → lv_has ls 1 [] → WI p l e rm_X0_isUnary s m args below meth c LC Y D E o H locs (F0 m 26 ls [.int s0]) := by
  intro s0 σ H locs ls h hP hS hl
  unfold f_X0_isUnary_26 at h
  obtain ⟨hC, hb, hml, hr, hlk, hD, hSW⟩ := id hF
  have hx := hC.1
  obtain ⟨g1, h⟩ := of_gd h
  exact x_zret hF hP hS (zb g1) h dX0_isUnary_26

def f_X0_isUnary_21 (σ : Sta) : Option (Int32 × Sta) :=
  f_X0_isUnary_26 1 σ
set_option maxHeartbeats 4000000 in
set_option maxRecDepth 100000 in
theorem t_X0_isUnary_21 {l : Launch} {D : va_G} {Y : CYs} {E : Nat → Nat} {p : Program} {e : Env} {s : State} {m : MethodId} {args : Array Value} {below : List Frame} {meth : Method} {c : Code} (hF : Fr p s m args meth c RX0 cX0_isUnary 1 (some .boolean) D Y E LC) {o : Int32 × Sta} : ∀ (σ : Sta) (H : Heap) (locs : List Loc) (ls : Array Slot), f_X0_isUnary_21 σ = some o → va_P D vwCl (wd Y E σ 0 LC) H → va_S (AF E LC.length s.heap.size) s.heap H locs → lv_has ls 1 [] → WI p l e rm_X0_isUnary s m args below meth c LC Y D E o H locs (F0 m 21 ls []) := by
  intro σ H locs ls h hP hS hl
  unfold f_X0_isUnary_21 at h
  obtain ⟨hC, hb, hml, hr, hlk, hD, hSW⟩ := id hF
  have hx := hC.1
  refine lv_iconst (v := 1) hx hb dX0_isUnary_21 (by decide) ?_
  refine lv_goto (tgt := 26) hx hb dX0_isUnary_22 (by decide) ?_
  exact t_X0_isUnary_26  hF 1 σ _ _ _ h hP hS (lv_sub hl [] rfl)

def f_X0_isUnary (a0 : Int32) (σ : Sta) : Option (Int32 × Sta) :=
  if a0 = 280 then
    f_X0_isUnary_21 σ
  else
    if a0 = 269 then
      f_X0_isUnary_21 σ
    else
      if a0 = 272 then
        f_X0_isUnary_21 σ
      else
        f_X0_isUnary_26 0 σ
set_option maxHeartbeats 4000000 in
set_option maxRecDepth 100000 in
theorem c_X0_isUnary {l : Launch} {D : va_G} {Y : CYs} {E : Nat → Nat} {a0 : Int32} {σ : Sta} {o : Int32 × Sta} (h : f_X0_isUnary a0 σ = some o) : MI l yX0_isUnary (Cond.code yX0_isUnary cX0_isUnary 1 (some .boolean) :: gW) rm_X0_isUnary LC Y D E [.int a0] σ o := by
  intro sz
  refine Met_of (Qc := fun sz => QI LC Y D E sz o) (by decide) (Nat.le_of_ble_eq_true rfl) (fun p e s m args below meth c hF hP ls hl => ?_) sz
  have hS : va_S (AF E LC.length s.heap.size) s.heap s.heap [] := va_S.rf
  have hl : lv_has ls 1 [(0, .int a0)] := hl
  show WI p l e rm_X0_isUnary s m args below meth c LC Y D E o s.heap [] (F0 m 0 ls [])
  unfold f_X0_isUnary at h
  obtain ⟨hC, hb, hml, hr, hlk, hD, hSW⟩ := id hF
  have hx := hC.1
  refine lv_iload_n hx hb dX0_isUnary_0 rfl (lv_at hl 0 rfl) ?_
  refine lv_sipush (v := 280) hx hb dX0_isUnary_1 (by decide) ?_
  refine lv_icmp_eq (tgt := 21) hx hb dX0_isUnary_4 (by decide) (fun c1 => ?_) (fun c1 => ?_)
  · have h := of_t h c1
    exact t_X0_isUnary_21  hF σ _ _ _ h hP hS (lv_sub hl [] rfl)
  · have h := of_f h c1
    refine lv_iload_n hx hb dX0_isUnary_7 rfl (lv_at hl 0 rfl) ?_
    refine lv_sipush (v := 269) hx hb dX0_isUnary_8 (by decide) ?_
    refine lv_icmp_eq (tgt := 21) hx hb dX0_isUnary_11 (by decide) (fun c2 => ?_) (fun c2 => ?_)
    · have h := of_t h c2
      exact t_X0_isUnary_21  hF σ _ _ _ h hP hS (lv_sub hl [] rfl)
    · have h := of_f h c2
      refine lv_iload_n hx hb dX0_isUnary_14 rfl (lv_at hl 0 rfl) ?_
      refine lv_sipush (v := 272) hx hb dX0_isUnary_15 (by decide) ?_
      refine lv_icmp_ne (tgt := 25) hx hb dX0_isUnary_18 (by decide) (fun c3 => ?_) (fun c3 => ?_)
      · have h := of_f h c3
        refine lv_iconst (v := 0) hx hb dX0_isUnary_25 (by decide) ?_
        exact t_X0_isUnary_26  hF 0 σ _ _ _ h hP hS (lv_sub hl [] rfl)
      · have h := of_t h c3
        exact t_X0_isUnary_21  hF σ _ _ _ h hP hS (lv_sub hl [] rfl)

abbrev rm_X0_unary : Room := { frames := 1, cells := 0, slots := 0, locals := 27 }
def f_X0_unary_28 (s0 : Int64) (σ : Sta) : Option (Int64 × Sta) :=
  some (s0, σ)
set_option maxHeartbeats 4000000 in
set_option maxRecDepth 100000 in
theorem t_X0_unary_28 {l : Launch} {D : va_G} {Y : CYs} {E : Nat → Nat} {p : Program} {e : Env} {s : State} {m : MethodId} {args : Array Value} {below : List Frame} {meth : Method} {c : Code} (hF : Fr p s m args meth c RX0 cX0_unary 3 (some .long) D Y E LC) {o : Int64 × Sta} : ∀ (s0 : Int64) (σ : Sta) (H : Heap) (locs : List Loc) (ls : Array Slot), f_X0_unary_28 s0 σ = some o → va_P D vwCl (wd Y E σ 0 LC) H → va_S (AF E LC.length s.heap.size) s.heap H locs → lv_has ls 3 [] → WL p l e rm_X0_unary s m args below meth c LC Y D E o H locs (F0 m 28 ls [.long s0]) := by
  intro s0 σ H locs ls h hP hS hl
  unfold f_X0_unary_28 at h
  obtain ⟨hC, hb, hml, hr, hlk, hD, hSW⟩ := id hF
  have hx := hC.1
  exact x_lret hF hP hS h dX0_unary_28

def f_X0_unary (a0 : Int32) (a1 : Int64) (σ : Sta) : Option (Int64 × Sta) :=
  if a0 = 280 then
    some (-a1, σ)
  else
    if a0 = 269 then
      if lg_cmp a1 0 = 0 then
        f_X0_unary_28 1 σ
      else
        f_X0_unary_28 0 σ
    else
      some (if 0 < a1 then a1 else -a1, σ)
set_option maxHeartbeats 4000000 in
set_option maxRecDepth 100000 in
theorem c_X0_unary {l : Launch} {D : va_G} {Y : CYs} {E : Nat → Nat} {a0 : Int32} {a1 : Int64} {σ : Sta} {o : Int64 × Sta} (h : f_X0_unary a0 a1 σ = some o) : ML l yX0_unary (Cond.code yX0_unary cX0_unary 3 (some .long) :: gW) rm_X0_unary LC Y D E [.int a0, .long a1] σ o := by
  intro sz
  refine Met_of (Qc := fun sz => QL LC Y D E sz o) (by decide) (Nat.le_of_ble_eq_true rfl) (fun p e s m args below meth c hF hP ls hl => ?_) sz
  have hS : va_S (AF E LC.length s.heap.size) s.heap s.heap [] := va_S.rf
  have hl : lv_has ls 3 [(0, .int a0), (1, .long a1)] := hl
  show WL p l e rm_X0_unary s m args below meth c LC Y D E o s.heap [] (F0 m 0 ls [])
  unfold f_X0_unary at h
  obtain ⟨hC, hb, hml, hr, hlk, hD, hSW⟩ := id hF
  have hx := hC.1
  refine lv_iload_n hx hb dX0_unary_0 rfl (lv_at hl 0 rfl) ?_
  refine lv_sipush (v := 280) hx hb dX0_unary_1 (by decide) ?_
  refine lv_icmp_ne (tgt := 10) hx hb dX0_unary_4 (by decide) (fun c1 => ?_) (fun c1 => ?_)
  · have h := of_f h c1
    refine lv_iload_n hx hb dX0_unary_10 rfl (lv_at hl 0 rfl) ?_
    refine lv_sipush (v := 269) hx hb dX0_unary_11 (by decide) ?_
    refine lv_icmp_ne (tgt := 29) hx hb dX0_unary_14 (by decide) (fun c2 => ?_) (fun c2 => ?_)
    · have h := of_f h c2
      refine lv_lload_n hx hb dX0_unary_29 rfl (lv_at hl 1 rfl) ?_
      refine va_mabs_long hx hb (by rw [hml]; exact hl.1.symm) hC.2.2.1 (hC.2.1 (Cond.methodLink RX0 55 Lib.MathLoose.abs_long.x) (gw_t (tb6 (List.mem_of_getElem? (i := 120) rfl)) rfl)) (hC.2.1 (Cond.static Lib.MathLoose.abs_long.x) (gw_t (tb6 (List.mem_of_getElem? (i := 121) rfl)) rfl)) (hC.2.1 (Cond.initialized "java/lang/Math") (gw_t (tb1 (List.mem_of_getElem? (i := 16) rfl)) rfl)) (hC.2.1 (Cond.code Lib.MathLoose.abs_long.x Lib.MathLoose.abs_long.code 2 (some .long)) (gw_t (tb6 (List.mem_of_getElem? (i := 122) rfl)) rfl)) (Nat.le_of_ble_eq_true rfl) (Nat.le_of_ble_eq_true rfl) (Nat.zero_le _) (Nat.zero_le _) dX0_unary_30 ?_
      exact x_lret hF hP hS h dX0_unary_33
    · have h := of_t h c2
      refine lv_lload_n hx hb dX0_unary_17 rfl (lv_at hl 1 rfl) ?_
      refine lv_lconst (v := 0) hx hb dX0_unary_18 (by decide) ?_
      refine W.lcmp hx hb dX0_unary_19 ?_
      refine lv_if_ne (tgt := 27) hx hb dX0_unary_20 (by decide) (fun c3 => ?_) (fun c3 => ?_)
      · have h := of_f h c3
        refine lv_lconst (v := 0) hx hb dX0_unary_27 (by decide) ?_
        exact t_X0_unary_28  hF 0 σ _ _ _ h hP hS (lv_sub hl [] rfl)
      · have h := of_t h c3
        refine lv_lconst (v := 1) hx hb dX0_unary_23 (by decide) ?_
        refine lv_goto (tgt := 28) hx hb dX0_unary_24 (by decide) ?_
        exact t_X0_unary_28  hF 1 σ _ _ _ h hP hS (lv_sub hl [] rfl)
  · have h := of_t h c1
    refine lv_lload_n hx hb dX0_unary_7 rfl (lv_at hl 1 rfl) ?_
    refine lv_lneg hx hb dX0_unary_8 ?_
    exact x_lret hF hP hS h dX0_unary_9

abbrev rm_X0_isRelated : Room := { frames := 0, cells := 0, slots := 0, locals := 0 }
def f_X0_isRelated_63 (s0 : Int32) (σ : Sta) : Option (Int32 × Sta) :=
  if ¬ (s0 = 0 ∨ s0 = 1) then none else (
  some (s0, σ))
set_option maxHeartbeats 4000000 in
set_option maxRecDepth 100000 in
theorem t_X0_isRelated_63 {l : Launch} {D : va_G} {Y : CYs} {E : Nat → Nat} {p : Program} {e : Env} {s : State} {m : MethodId} {args : Array Value} {below : List Frame} {meth : Method} {c : Code} (hF : Fr p s m args meth c RX0 cX0_isRelated 5 (some .boolean) D Y E LC) {o : Int32 × Sta} : ∀ (s0 : Int32) (σ : Sta) (H : Heap) (locs : List Loc) (ls : Array Slot), f_X0_isRelated_63 s0 σ = some o → va_P D vwCl (wd Y E σ 0 LC) H → va_S (AF E LC.length s.heap.size) s.heap H locs → lv_has ls 5 [] → WI p l e rm_X0_isRelated s m args below meth c LC Y D E o H locs (F0 m 63 ls [.int s0]) := by
  intro s0 σ H locs ls h hP hS hl
  unfold f_X0_isRelated_63 at h
  obtain ⟨hC, hb, hml, hr, hlk, hD, hSW⟩ := id hF
  have hx := hC.1
  obtain ⟨g1, h⟩ := of_gd h
  exact x_zret hF hP hS (zb g1) h dX0_isRelated_63

def f_X0_isRelated_75 (s0 : Int32) (σ : Sta) : Option (Int32 × Sta) :=
  if ¬ (s0 = 0 ∨ s0 = 1) then none else (
  some (s0, σ))
set_option maxHeartbeats 4000000 in
set_option maxRecDepth 100000 in
theorem t_X0_isRelated_75 {l : Launch} {D : va_G} {Y : CYs} {E : Nat → Nat} {p : Program} {e : Env} {s : State} {m : MethodId} {args : Array Value} {below : List Frame} {meth : Method} {c : Code} (hF : Fr p s m args meth c RX0 cX0_isRelated 5 (some .boolean) D Y E LC) {o : Int32 × Sta} : ∀ (s0 : Int32) (σ : Sta) (H : Heap) (locs : List Loc) (ls : Array Slot), f_X0_isRelated_75 s0 σ = some o → va_P D vwCl (wd Y E σ 0 LC) H → va_S (AF E LC.length s.heap.size) s.heap H locs → lv_has ls 5 [] → WI p l e rm_X0_isRelated s m args below meth c LC Y D E o H locs (F0 m 75 ls [.int s0]) := by
  intro s0 σ H locs ls h hP hS hl
  unfold f_X0_isRelated_75 at h
  obtain ⟨hC, hb, hml, hr, hlk, hD, hSW⟩ := id hF
  have hx := hC.1
  obtain ⟨g1, h⟩ := of_gd h
  exact x_zret hF hP hS (zb g1) h dX0_isRelated_75

def f_X0_isRelated_87 (s0 : Int32) (σ : Sta) : Option (Int32 × Sta) :=
  if ¬ (s0 = 0 ∨ s0 = 1) then none else (
  some (s0, σ))
set_option maxHeartbeats 4000000 in
set_option maxRecDepth 100000 in
theorem t_X0_isRelated_87 {l : Launch} {D : va_G} {Y : CYs} {E : Nat → Nat} {p : Program} {e : Env} {s : State} {m : MethodId} {args : Array Value} {below : List Frame} {meth : Method} {c : Code} (hF : Fr p s m args meth c RX0 cX0_isRelated 5 (some .boolean) D Y E LC) {o : Int32 × Sta} : ∀ (s0 : Int32) (σ : Sta) (H : Heap) (locs : List Loc) (ls : Array Slot), f_X0_isRelated_87 s0 σ = some o → va_P D vwCl (wd Y E σ 0 LC) H → va_S (AF E LC.length s.heap.size) s.heap H locs → lv_has ls 5 [] → WI p l e rm_X0_isRelated s m args below meth c LC Y D E o H locs (F0 m 87 ls [.int s0]) := by
  intro s0 σ H locs ls h hP hS hl
  unfold f_X0_isRelated_87 at h
  obtain ⟨hC, hb, hml, hr, hlk, hD, hSW⟩ := id hF
  have hx := hC.1
  obtain ⟨g1, h⟩ := of_gd h
  exact x_zret hF hP hS (zb g1) h dX0_isRelated_87

def f_X0_isRelated_99 (s0 : Int32) (σ : Sta) : Option (Int32 × Sta) :=
  if ¬ (s0 = 0 ∨ s0 = 1) then none else (
  some (s0, σ))
set_option maxHeartbeats 4000000 in
set_option maxRecDepth 100000 in
theorem t_X0_isRelated_99 {l : Launch} {D : va_G} {Y : CYs} {E : Nat → Nat} {p : Program} {e : Env} {s : State} {m : MethodId} {args : Array Value} {below : List Frame} {meth : Method} {c : Code} (hF : Fr p s m args meth c RX0 cX0_isRelated 5 (some .boolean) D Y E LC) {o : Int32 × Sta} : ∀ (s0 : Int32) (σ : Sta) (H : Heap) (locs : List Loc) (ls : Array Slot), f_X0_isRelated_99 s0 σ = some o → va_P D vwCl (wd Y E σ 0 LC) H → va_S (AF E LC.length s.heap.size) s.heap H locs → lv_has ls 5 [] → WI p l e rm_X0_isRelated s m args below meth c LC Y D E o H locs (F0 m 99 ls [.int s0]) := by
  intro s0 σ H locs ls h hP hS hl
  unfold f_X0_isRelated_99 at h
  obtain ⟨hC, hb, hml, hr, hlk, hD, hSW⟩ := id hF
  have hx := hC.1
  obtain ⟨g1, h⟩ := of_gd h
  exact x_zret hF hP hS (zb g1) h dX0_isRelated_99

def f_X0_isRelated_111 (s0 : Int32) (σ : Sta) : Option (Int32 × Sta) :=
  if ¬ (s0 = 0 ∨ s0 = 1) then none else (
  some (s0, σ))
set_option maxHeartbeats 4000000 in
set_option maxRecDepth 100000 in
theorem t_X0_isRelated_111 {l : Launch} {D : va_G} {Y : CYs} {E : Nat → Nat} {p : Program} {e : Env} {s : State} {m : MethodId} {args : Array Value} {below : List Frame} {meth : Method} {c : Code} (hF : Fr p s m args meth c RX0 cX0_isRelated 5 (some .boolean) D Y E LC) {o : Int32 × Sta} : ∀ (s0 : Int32) (σ : Sta) (H : Heap) (locs : List Loc) (ls : Array Slot), f_X0_isRelated_111 s0 σ = some o → va_P D vwCl (wd Y E σ 0 LC) H → va_S (AF E LC.length s.heap.size) s.heap H locs → lv_has ls 5 [] → WI p l e rm_X0_isRelated s m args below meth c LC Y D E o H locs (F0 m 111 ls [.int s0]) := by
  intro s0 σ H locs ls h hP hS hl
  unfold f_X0_isRelated_111 at h
  obtain ⟨hC, hb, hml, hr, hlk, hD, hSW⟩ := id hF
  have hx := hC.1
  obtain ⟨g1, h⟩ := of_gd h
  exact x_zret hF hP hS (zb g1) h dX0_isRelated_111

def f_X0_isRelated_123 (s0 : Int32) (σ : Sta) : Option (Int32 × Sta) :=
  if ¬ (s0 = 0 ∨ s0 = 1) then none else (
  some (s0, σ))
set_option maxHeartbeats 4000000 in
set_option maxRecDepth 100000 in
theorem t_X0_isRelated_123 {l : Launch} {D : va_G} {Y : CYs} {E : Nat → Nat} {p : Program} {e : Env} {s : State} {m : MethodId} {args : Array Value} {below : List Frame} {meth : Method} {c : Code} (hF : Fr p s m args meth c RX0 cX0_isRelated 5 (some .boolean) D Y E LC) {o : Int32 × Sta} : ∀ (s0 : Int32) (σ : Sta) (H : Heap) (locs : List Loc) (ls : Array Slot), f_X0_isRelated_123 s0 σ = some o → va_P D vwCl (wd Y E σ 0 LC) H → va_S (AF E LC.length s.heap.size) s.heap H locs → lv_has ls 5 [] → WI p l e rm_X0_isRelated s m args below meth c LC Y D E o H locs (F0 m 123 ls [.int s0]) := by
  intro s0 σ H locs ls h hP hS hl
  unfold f_X0_isRelated_123 at h
  obtain ⟨hC, hb, hml, hr, hlk, hD, hSW⟩ := id hF
  have hx := hC.1
  obtain ⟨g1, h⟩ := of_gd h
  exact x_zret hF hP hS (zb g1) h dX0_isRelated_123

def f_X0_isRelated (a0 : Int32) (a1 : Int64) (a3 : Int64) (σ : Sta) : Option (Int32 × Sta) :=
  if a0 = 60 then
    if 0 ≤ lg_cmp a1 a3 then
      f_X0_isRelated_87 0 σ
    else
      f_X0_isRelated_87 1 σ
  else if a0 = 61 then
    if lg_cmp a1 a3 = 0 then
      f_X0_isRelated_63 1 σ
    else
      f_X0_isRelated_63 0 σ
  else if a0 = 62 then
    if lg_cmp a1 a3 ≤ 0 then
      f_X0_isRelated_99 0 σ
    else
      f_X0_isRelated_99 1 σ
  else if a0 = 275 then
    if 0 < lg_cmp a1 a3 then
      f_X0_isRelated_111 0 σ
    else
      f_X0_isRelated_111 1 σ
  else if a0 = 277 then
    if lg_cmp a1 a3 = 0 then
      f_X0_isRelated_75 0 σ
    else
      f_X0_isRelated_75 1 σ
  else 
    if lg_cmp a1 a3 < 0 then
      f_X0_isRelated_123 0 σ
    else
      f_X0_isRelated_123 1 σ
set_option maxHeartbeats 4000000 in
set_option maxRecDepth 100000 in
theorem c_X0_isRelated {l : Launch} {D : va_G} {Y : CYs} {E : Nat → Nat} {a0 : Int32} {a1 : Int64} {a3 : Int64} {σ : Sta} {o : Int32 × Sta} (h : f_X0_isRelated a0 a1 a3 σ = some o) : MI l yX0_isRelated (Cond.code yX0_isRelated cX0_isRelated 5 (some .boolean) :: gW) rm_X0_isRelated LC Y D E [.int a0, .long a1, .long a3] σ o := by
  intro sz
  refine Met_of (Qc := fun sz => QI LC Y D E sz o) (by decide) (Nat.le_of_ble_eq_true rfl) (fun p e s m args below meth c hF hP ls hl => ?_) sz
  have hS : va_S (AF E LC.length s.heap.size) s.heap s.heap [] := va_S.rf
  have hl : lv_has ls 5 [(0, .int a0), (1, .long a1), (3, .long a3)] := hl
  show WI p l e rm_X0_isRelated s m args below meth c LC Y D E o s.heap [] (F0 m 0 ls [])
  unfold f_X0_isRelated at h
  obtain ⟨hC, hb, hml, hr, hlk, hD, hSW⟩ := id hF
  have hx := hC.1
  refine lv_iload_n hx hb dX0_isRelated_0 rfl (lv_at hl 0 rfl) ?_
  by_cases c1 : a0 = 60
  · have h := of_t h c1
    refine lv_lookup (tgt := 76) hx hb dX0_isRelated_1 (by decide) (by rw [c1]; try rfl) (by decide) ?_
    refine lv_lload_n hx hb dX0_isRelated_76 rfl (lv_at hl 1 rfl) ?_
    refine lv_lload_n hx hb dX0_isRelated_77 rfl (lv_at hl 2 rfl) ?_
    refine W.lcmp hx hb dX0_isRelated_78 ?_
    refine lv_if_ge (tgt := 86) hx hb dX0_isRelated_79 (by decide) (fun c2 => ?_) (fun c2 => ?_)
    · have h := of_t h c2
      refine lv_iconst (v := 0) hx hb dX0_isRelated_86 (by decide) ?_
      exact t_X0_isRelated_87  hF 0 σ _ _ _ h hP hS (lv_sub hl [] rfl)
    · have h := of_f h c2
      refine lv_iconst (v := 1) hx hb dX0_isRelated_82 (by decide) ?_
      refine lv_goto (tgt := 87) hx hb dX0_isRelated_83 (by decide) ?_
      exact t_X0_isRelated_87  hF 1 σ _ _ _ h hP hS (lv_sub hl [] rfl)
  · have h := of_f h c1
    by_cases c3 : a0 = 61
    · have h := of_t h c3
      refine lv_lookup (tgt := 52) hx hb dX0_isRelated_1 (by decide) (by rw [c3]; try rfl) (by decide) ?_
      refine lv_lload_n hx hb dX0_isRelated_52 rfl (lv_at hl 1 rfl) ?_
      refine lv_lload_n hx hb dX0_isRelated_53 rfl (lv_at hl 2 rfl) ?_
      refine W.lcmp hx hb dX0_isRelated_54 ?_
      refine lv_if_ne (tgt := 62) hx hb dX0_isRelated_55 (by decide) (fun c4 => ?_) (fun c4 => ?_)
      · have h := of_f h c4
        refine lv_iconst (v := 0) hx hb dX0_isRelated_62 (by decide) ?_
        exact t_X0_isRelated_63  hF 0 σ _ _ _ h hP hS (lv_sub hl [] rfl)
      · have h := of_t h c4
        refine lv_iconst (v := 1) hx hb dX0_isRelated_58 (by decide) ?_
        refine lv_goto (tgt := 63) hx hb dX0_isRelated_59 (by decide) ?_
        exact t_X0_isRelated_63  hF 1 σ _ _ _ h hP hS (lv_sub hl [] rfl)
    · have h := of_f h c3
      by_cases c5 : a0 = 62
      · have h := of_t h c5
        refine lv_lookup (tgt := 88) hx hb dX0_isRelated_1 (by decide) (by rw [c5]; try rfl) (by decide) ?_
        refine lv_lload_n hx hb dX0_isRelated_88 rfl (lv_at hl 1 rfl) ?_
        refine lv_lload_n hx hb dX0_isRelated_89 rfl (lv_at hl 2 rfl) ?_
        refine W.lcmp hx hb dX0_isRelated_90 ?_
        refine lv_if_le (tgt := 98) hx hb dX0_isRelated_91 (by decide) (fun c6 => ?_) (fun c6 => ?_)
        · have h := of_t h c6
          refine lv_iconst (v := 0) hx hb dX0_isRelated_98 (by decide) ?_
          exact t_X0_isRelated_99  hF 0 σ _ _ _ h hP hS (lv_sub hl [] rfl)
        · have h := of_f h c6
          refine lv_iconst (v := 1) hx hb dX0_isRelated_94 (by decide) ?_
          refine lv_goto (tgt := 99) hx hb dX0_isRelated_95 (by decide) ?_
          exact t_X0_isRelated_99  hF 1 σ _ _ _ h hP hS (lv_sub hl [] rfl)
      · have h := of_f h c5
        by_cases c7 : a0 = 275
        · have h := of_t h c7
          refine lv_lookup (tgt := 100) hx hb dX0_isRelated_1 (by decide) (by rw [c7]; try rfl) (by decide) ?_
          refine lv_lload_n hx hb dX0_isRelated_100 rfl (lv_at hl 1 rfl) ?_
          refine lv_lload_n hx hb dX0_isRelated_101 rfl (lv_at hl 2 rfl) ?_
          refine W.lcmp hx hb dX0_isRelated_102 ?_
          refine lv_if_gt (tgt := 110) hx hb dX0_isRelated_103 (by decide) (fun c8 => ?_) (fun c8 => ?_)
          · have h := of_t h c8
            refine lv_iconst (v := 0) hx hb dX0_isRelated_110 (by decide) ?_
            exact t_X0_isRelated_111  hF 0 σ _ _ _ h hP hS (lv_sub hl [] rfl)
          · have h := of_f h c8
            refine lv_iconst (v := 1) hx hb dX0_isRelated_106 (by decide) ?_
            refine lv_goto (tgt := 111) hx hb dX0_isRelated_107 (by decide) ?_
            exact t_X0_isRelated_111  hF 1 σ _ _ _ h hP hS (lv_sub hl [] rfl)
        · have h := of_f h c7
          by_cases c9 : a0 = 277
          · have h := of_t h c9
            refine lv_lookup (tgt := 64) hx hb dX0_isRelated_1 (by decide) (by rw [c9]; try rfl) (by decide) ?_
            refine lv_lload_n hx hb dX0_isRelated_64 rfl (lv_at hl 1 rfl) ?_
            refine lv_lload_n hx hb dX0_isRelated_65 rfl (lv_at hl 2 rfl) ?_
            refine W.lcmp hx hb dX0_isRelated_66 ?_
            refine lv_if_eq (tgt := 74) hx hb dX0_isRelated_67 (by decide) (fun c10 => ?_) (fun c10 => ?_)
            · have h := of_t h c10
              refine lv_iconst (v := 0) hx hb dX0_isRelated_74 (by decide) ?_
              exact t_X0_isRelated_75  hF 0 σ _ _ _ h hP hS (lv_sub hl [] rfl)
            · have h := of_f h c10
              refine lv_iconst (v := 1) hx hb dX0_isRelated_70 (by decide) ?_
              refine lv_goto (tgt := 75) hx hb dX0_isRelated_71 (by decide) ?_
              exact t_X0_isRelated_75  hF 1 σ _ _ _ h hP hS (lv_sub hl [] rfl)
          · have h := of_f h c9
            refine lv_lookup (off := 111) (tgt := 112) hx hb dX0_isRelated_1 (by decide) (by rw [lv_osw c1 (by decide), lv_osw c3 (by decide), lv_osw c5 (by decide), lv_osw c7 (by decide), lv_osw c9 (by decide)]; try rfl) (by decide) ?_
            refine lv_lload_n hx hb dX0_isRelated_112 rfl (lv_at hl 1 rfl) ?_
            refine lv_lload_n hx hb dX0_isRelated_113 rfl (lv_at hl 2 rfl) ?_
            refine W.lcmp hx hb dX0_isRelated_114 ?_
            refine lv_if_lt (tgt := 122) hx hb dX0_isRelated_115 (by decide) (fun c11 => ?_) (fun c11 => ?_)
            · have h := of_t h c11
              refine lv_iconst (v := 0) hx hb dX0_isRelated_122 (by decide) ?_
              exact t_X0_isRelated_123  hF 0 σ _ _ _ h hP hS (lv_sub hl [] rfl)
            · have h := of_f h c11
              refine lv_iconst (v := 1) hx hb dX0_isRelated_118 (by decide) ?_
              refine lv_goto (tgt := 123) hx hb dX0_isRelated_119 (by decide) ?_
              exact t_X0_isRelated_123  hF 1 σ _ _ _ h hP hS (lv_sub hl [] rfl)

abbrev rm_X0_binary : Room := { frames := 1, cells := 0, slots := 0, locals := 27 }
def f_X0_binary_109 (s0 : Int64) (σ : Sta) : Option (Int64 × Sta) :=
  some (s0, σ)
set_option maxHeartbeats 4000000 in
set_option maxRecDepth 100000 in
theorem t_X0_binary_109 {l : Launch} {D : va_G} {Y : CYs} {E : Nat → Nat} {p : Program} {e : Env} {s : State} {m : MethodId} {args : Array Value} {below : List Frame} {meth : Method} {c : Code} (hF : Fr p s m args meth c RX0 cX0_binary 5 (some .long) D Y E LC) {o : Int64 × Sta} : ∀ (s0 : Int64) (σ : Sta) (H : Heap) (locs : List Loc) (ls : Array Slot), f_X0_binary_109 s0 σ = some o → va_P D vwCl (wd Y E σ 0 LC) H → va_S (AF E LC.length s.heap.size) s.heap H locs → lv_has ls 5 [] → WL p l e rm_X0_binary s m args below meth c LC Y D E o H locs (F0 m 109 ls [.long s0]) := by
  intro s0 σ H locs ls h hP hS hl
  unfold f_X0_binary_109 at h
  obtain ⟨hC, hb, hml, hr, hlk, hD, hSW⟩ := id hF
  have hx := hC.1
  exact x_lret hF hP hS h dX0_binary_109

def f_X0_binary_123 (s0 : Int64) (σ : Sta) : Option (Int64 × Sta) :=
  some (s0, σ)
set_option maxHeartbeats 4000000 in
set_option maxRecDepth 100000 in
theorem t_X0_binary_123 {l : Launch} {D : va_G} {Y : CYs} {E : Nat → Nat} {p : Program} {e : Env} {s : State} {m : MethodId} {args : Array Value} {below : List Frame} {meth : Method} {c : Code} (hF : Fr p s m args meth c RX0 cX0_binary 5 (some .long) D Y E LC) {o : Int64 × Sta} : ∀ (s0 : Int64) (σ : Sta) (H : Heap) (locs : List Loc) (ls : Array Slot), f_X0_binary_123 s0 σ = some o → va_P D vwCl (wd Y E σ 0 LC) H → va_S (AF E LC.length s.heap.size) s.heap H locs → lv_has ls 5 [] → WL p l e rm_X0_binary s m args below meth c LC Y D E o H locs (F0 m 123 ls [.long s0]) := by
  intro s0 σ H locs ls h hP hS hl
  unfold f_X0_binary_123 at h
  obtain ⟨hC, hb, hml, hr, hlk, hD, hSW⟩ := id hF
  have hx := hC.1
  exact x_lret hF hP hS h dX0_binary_123

def f_X0_binary_153 (s0 : Int64) (σ : Sta) : Option (Int64 × Sta) :=
  some (s0, σ)
set_option maxHeartbeats 4000000 in
set_option maxRecDepth 100000 in
theorem t_X0_binary_153 {l : Launch} {D : va_G} {Y : CYs} {E : Nat → Nat} {p : Program} {e : Env} {s : State} {m : MethodId} {args : Array Value} {below : List Frame} {meth : Method} {c : Code} (hF : Fr p s m args meth c RX0 cX0_binary 5 (some .long) D Y E LC) {o : Int64 × Sta} : ∀ (s0 : Int64) (σ : Sta) (H : Heap) (locs : List Loc) (ls : Array Slot), f_X0_binary_153 s0 σ = some o → va_P D vwCl (wd Y E σ 0 LC) H → va_S (AF E LC.length s.heap.size) s.heap H locs → lv_has ls 5 [] → WL p l e rm_X0_binary s m args below meth c LC Y D E o H locs (F0 m 153 ls [.long s0]) := by
  intro s0 σ H locs ls h hP hS hl
  unfold f_X0_binary_153 at h
  obtain ⟨hC, hb, hml, hr, hlk, hD, hSW⟩ := id hF
  have hx := hC.1
  exact x_lret hF hP hS h dX0_binary_153

def f_X0_binary_152 (σ : Sta) : Option (Int64 × Sta) :=
  f_X0_binary_153 0 σ
set_option maxHeartbeats 4000000 in
set_option maxRecDepth 100000 in
theorem t_X0_binary_152 {l : Launch} {D : va_G} {Y : CYs} {E : Nat → Nat} {p : Program} {e : Env} {s : State} {m : MethodId} {args : Array Value} {below : List Frame} {meth : Method} {c : Code} (hF : Fr p s m args meth c RX0 cX0_binary 5 (some .long) D Y E LC) {o : Int64 × Sta} : ∀ (σ : Sta) (H : Heap) (locs : List Loc) (ls : Array Slot), f_X0_binary_152 σ = some o → va_P D vwCl (wd Y E σ 0 LC) H → va_S (AF E LC.length s.heap.size) s.heap H locs → lv_has ls 5 [] → WL p l e rm_X0_binary s m args below meth c LC Y D E o H locs (F0 m 152 ls []) := by
  intro σ H locs ls h hP hS hl
  unfold f_X0_binary_152 at h
  obtain ⟨hC, hb, hml, hr, hlk, hD, hSW⟩ := id hF
  have hx := hC.1
  refine lv_lconst (v := 0) hx hb dX0_binary_152 (by decide) ?_
  exact t_X0_binary_153  hF 0 σ _ _ _ h hP hS (lv_sub hl [] rfl)

def f_X0_binary_171 (s0 : Int64) (σ : Sta) : Option (Int64 × Sta) :=
  some (s0, σ)
set_option maxHeartbeats 4000000 in
set_option maxRecDepth 100000 in
theorem t_X0_binary_171 {l : Launch} {D : va_G} {Y : CYs} {E : Nat → Nat} {p : Program} {e : Env} {s : State} {m : MethodId} {args : Array Value} {below : List Frame} {meth : Method} {c : Code} (hF : Fr p s m args meth c RX0 cX0_binary 5 (some .long) D Y E LC) {o : Int64 × Sta} : ∀ (s0 : Int64) (σ : Sta) (H : Heap) (locs : List Loc) (ls : Array Slot), f_X0_binary_171 s0 σ = some o → va_P D vwCl (wd Y E σ 0 LC) H → va_S (AF E LC.length s.heap.size) s.heap H locs → lv_has ls 5 [] → WL p l e rm_X0_binary s m args below meth c LC Y D E o H locs (F0 m 171 ls [.long s0]) := by
  intro s0 σ H locs ls h hP hS hl
  unfold f_X0_binary_171 at h
  obtain ⟨hC, hb, hml, hr, hlk, hD, hSW⟩ := id hF
  have hx := hC.1
  exact x_lret hF hP hS h dX0_binary_171

def f_X0_binary_166 (σ : Sta) : Option (Int64 × Sta) :=
  f_X0_binary_171 1 σ
set_option maxHeartbeats 4000000 in
set_option maxRecDepth 100000 in
theorem t_X0_binary_166 {l : Launch} {D : va_G} {Y : CYs} {E : Nat → Nat} {p : Program} {e : Env} {s : State} {m : MethodId} {args : Array Value} {below : List Frame} {meth : Method} {c : Code} (hF : Fr p s m args meth c RX0 cX0_binary 5 (some .long) D Y E LC) {o : Int64 × Sta} : ∀ (σ : Sta) (H : Heap) (locs : List Loc) (ls : Array Slot), f_X0_binary_166 σ = some o → va_P D vwCl (wd Y E σ 0 LC) H → va_S (AF E LC.length s.heap.size) s.heap H locs → lv_has ls 5 [] → WL p l e rm_X0_binary s m args below meth c LC Y D E o H locs (F0 m 166 ls []) := by
  intro σ H locs ls h hP hS hl
  unfold f_X0_binary_166 at h
  obtain ⟨hC, hb, hml, hr, hlk, hD, hSW⟩ := id hF
  have hx := hC.1
  refine lv_lconst (v := 1) hx hb dX0_binary_166 (by decide) ?_
  refine lv_goto (tgt := 171) hx hb dX0_binary_167 (by decide) ?_
  exact t_X0_binary_171  hF 1 σ _ _ _ h hP hS (lv_sub hl [] rfl)

def f_X0_binary_186 (s0 : Int64) (σ : Sta) : Option (Int64 × Sta) :=
  some (s0, σ)
set_option maxHeartbeats 4000000 in
set_option maxRecDepth 100000 in
theorem t_X0_binary_186 {l : Launch} {D : va_G} {Y : CYs} {E : Nat → Nat} {p : Program} {e : Env} {s : State} {m : MethodId} {args : Array Value} {below : List Frame} {meth : Method} {c : Code} (hF : Fr p s m args meth c RX0 cX0_binary 5 (some .long) D Y E LC) {o : Int64 × Sta} : ∀ (s0 : Int64) (σ : Sta) (H : Heap) (locs : List Loc) (ls : Array Slot), f_X0_binary_186 s0 σ = some o → va_P D vwCl (wd Y E σ 0 LC) H → va_S (AF E LC.length s.heap.size) s.heap H locs → lv_has ls 5 [] → WL p l e rm_X0_binary s m args below meth c LC Y D E o H locs (F0 m 186 ls [.long s0]) := by
  intro s0 σ H locs ls h hP hS hl
  unfold f_X0_binary_186 at h
  obtain ⟨hC, hb, hml, hr, hlk, hD, hSW⟩ := id hF
  have hx := hC.1
  exact x_lret hF hP hS h dX0_binary_186

def f_X0_binary (a0 : Int32) (a1 : Int64) (a3 : Int64) (σ : Sta) : Option (Int64 × Sta) :=
  if a0 = 37 then
    if lg_cmp a3 0 = 0 then
      f_X0_binary_123 0 σ
    else
      if a3 = 0 then none else (
      f_X0_binary_123 (a1 - a1 / a3 * a3) σ)
  else if a0 = 42 then
    some (a1 * a3, σ)
  else if a0 = 43 then
    some (a1 + a3, σ)
  else if a0 = 45 then
    some (a1 - a3, σ)
  else if a0 = 47 then
    if lg_cmp a3 0 = 0 then
      f_X0_binary_109 0 σ
    else
      if a3 = 0 then none else (
      f_X0_binary_109 (a1 / a3) σ)
  else if a0 = 267 then
    if lg_cmp a1 0 = 0 then
      f_X0_binary_152 σ
    else
      if lg_cmp a3 0 = 0 then
        f_X0_binary_152 σ
      else
        f_X0_binary_153 1 σ
  else if a0 = 268 then
    if lg_cmp a1 0 = 0 then
      if lg_cmp a3 0 = 0 then
        f_X0_binary_171 0 σ
      else
        f_X0_binary_166 σ
    else
      f_X0_binary_166 σ
  else if a0 = 270 then
    some (if a3 < a1 then a3 else a1, σ)
  else if a0 = 271 then
    some (if a3 < a1 then a1 else a3, σ)
  else 
    bnd (f_X0_isRelated a0 a1 a3 σ) (fun r18 σ19 =>
    if r18 = 0 then
      f_X0_binary_186 0 σ19
    else
      f_X0_binary_186 1 σ19)
set_option maxHeartbeats 4000000 in
set_option maxRecDepth 100000 in
theorem c_X0_binary {l : Launch} {D : va_G} {Y : CYs} {E : Nat → Nat} {a0 : Int32} {a1 : Int64} {a3 : Int64} {σ : Sta} {o : Int64 × Sta} (h : f_X0_binary a0 a1 a3 σ = some o) : ML l yX0_binary (Cond.code yX0_binary cX0_binary 5 (some .long) :: gW) rm_X0_binary LC Y D E [.int a0, .long a1, .long a3] σ o := by
  intro sz
  refine Met_of (Qc := fun sz => QL LC Y D E sz o) (by decide) (Nat.le_of_ble_eq_true rfl) (fun p e s m args below meth c hF hP ls hl => ?_) sz
  have hS : va_S (AF E LC.length s.heap.size) s.heap s.heap [] := va_S.rf
  have hl : lv_has ls 5 [(0, .int a0), (1, .long a1), (3, .long a3)] := hl
  show WL p l e rm_X0_binary s m args below meth c LC Y D E o s.heap [] (F0 m 0 ls [])
  unfold f_X0_binary at h
  obtain ⟨hC, hb, hml, hr, hlk, hD, hSW⟩ := id hF
  have hx := hC.1
  refine lv_iload_n hx hb dX0_binary_0 rfl (lv_at hl 0 rfl) ?_
  by_cases c1 : a0 = 37
  · have h := of_t h c1
    refine lv_lookup (tgt := 110) hx hb dX0_binary_1 (by decide) (by rw [c1]; try rfl) (by decide) ?_
    refine lv_lload_n hx hb dX0_binary_110 rfl (lv_at hl 2 rfl) ?_
    refine lv_lconst (v := 0) hx hb dX0_binary_111 (by decide) ?_
    refine W.lcmp hx hb dX0_binary_112 ?_
    refine lv_if_ne (tgt := 120) hx hb dX0_binary_113 (by decide) (fun c2 => ?_) (fun c2 => ?_)
    · have h := of_f h c2
      refine lv_lload_n hx hb dX0_binary_120 rfl (lv_at hl 1 rfl) ?_
      refine lv_lload_n hx hb dX0_binary_121 rfl (lv_at hl 2 rfl) ?_
      obtain ⟨g3, h⟩ := of_gd h
      refine lv_lrem hx hb dX0_binary_122 g3 ?_
      exact t_X0_binary_123  hF (a1 - a1 / a3 * a3) σ _ _ _ h hP hS (lv_sub hl [] rfl)
    · have h := of_t h c2
      refine lv_lconst (v := 0) hx hb dX0_binary_116 (by decide) ?_
      refine lv_goto (tgt := 123) hx hb dX0_binary_117 (by decide) ?_
      exact t_X0_binary_123  hF 0 σ _ _ _ h hP hS (lv_sub hl [] rfl)
  · have h := of_f h c1
    by_cases c4 : a0 = 42
    · have h := of_t h c4
      refine lv_lookup (tgt := 92) hx hb dX0_binary_1 (by decide) (by rw [c4]; try rfl) (by decide) ?_
      refine lv_lload_n hx hb dX0_binary_92 rfl (lv_at hl 1 rfl) ?_
      refine lv_lload_n hx hb dX0_binary_93 rfl (lv_at hl 2 rfl) ?_
      refine lv_lmul hx hb dX0_binary_94 ?_
      exact x_lret hF hP hS h dX0_binary_95
    · have h := of_f h c4
      by_cases c5 : a0 = 43
      · have h := of_t h c5
        refine lv_lookup (tgt := 84) hx hb dX0_binary_1 (by decide) (by rw [c5]; try rfl) (by decide) ?_
        refine lv_lload_n hx hb dX0_binary_84 rfl (lv_at hl 1 rfl) ?_
        refine lv_lload_n hx hb dX0_binary_85 rfl (lv_at hl 2 rfl) ?_
        refine lv_ladd hx hb dX0_binary_86 ?_
        exact x_lret hF hP hS h dX0_binary_87
      · have h := of_f h c5
        by_cases c6 : a0 = 45
        · have h := of_t h c6
          refine lv_lookup (tgt := 88) hx hb dX0_binary_1 (by decide) (by rw [c6]; try rfl) (by decide) ?_
          refine lv_lload_n hx hb dX0_binary_88 rfl (lv_at hl 1 rfl) ?_
          refine lv_lload_n hx hb dX0_binary_89 rfl (lv_at hl 2 rfl) ?_
          refine lv_lsub hx hb dX0_binary_90 ?_
          exact x_lret hF hP hS h dX0_binary_91
        · have h := of_f h c6
          by_cases c7 : a0 = 47
          · have h := of_t h c7
            refine lv_lookup (tgt := 96) hx hb dX0_binary_1 (by decide) (by rw [c7]; try rfl) (by decide) ?_
            refine lv_lload_n hx hb dX0_binary_96 rfl (lv_at hl 2 rfl) ?_
            refine lv_lconst (v := 0) hx hb dX0_binary_97 (by decide) ?_
            refine W.lcmp hx hb dX0_binary_98 ?_
            refine lv_if_ne (tgt := 106) hx hb dX0_binary_99 (by decide) (fun c8 => ?_) (fun c8 => ?_)
            · have h := of_f h c8
              refine lv_lload_n hx hb dX0_binary_106 rfl (lv_at hl 1 rfl) ?_
              refine lv_lload_n hx hb dX0_binary_107 rfl (lv_at hl 2 rfl) ?_
              obtain ⟨g9, h⟩ := of_gd h
              refine lv_ldiv hx hb dX0_binary_108 g9 ?_
              exact t_X0_binary_109  hF (a1 / a3) σ _ _ _ h hP hS (lv_sub hl [] rfl)
            · have h := of_t h c8
              refine lv_lconst (v := 0) hx hb dX0_binary_102 (by decide) ?_
              refine lv_goto (tgt := 109) hx hb dX0_binary_103 (by decide) ?_
              exact t_X0_binary_109  hF 0 σ _ _ _ h hP hS (lv_sub hl [] rfl)
          · have h := of_f h c7
            by_cases c10 : a0 = 267
            · have h := of_t h c10
              refine lv_lookup (tgt := 136) hx hb dX0_binary_1 (by decide) (by rw [c10]; try rfl) (by decide) ?_
              refine lv_lload_n hx hb dX0_binary_136 rfl (lv_at hl 1 rfl) ?_
              refine lv_lconst (v := 0) hx hb dX0_binary_137 (by decide) ?_
              refine W.lcmp hx hb dX0_binary_138 ?_
              refine lv_if_eq (tgt := 152) hx hb dX0_binary_139 (by decide) (fun c11 => ?_) (fun c11 => ?_)
              · have h := of_t h c11
                exact t_X0_binary_152  hF σ _ _ _ h hP hS (lv_sub hl [] rfl)
              · have h := of_f h c11
                refine lv_lload_n hx hb dX0_binary_142 rfl (lv_at hl 2 rfl) ?_
                refine lv_lconst (v := 0) hx hb dX0_binary_143 (by decide) ?_
                refine W.lcmp hx hb dX0_binary_144 ?_
                refine lv_if_eq (tgt := 152) hx hb dX0_binary_145 (by decide) (fun c12 => ?_) (fun c12 => ?_)
                · have h := of_t h c12
                  exact t_X0_binary_152  hF σ _ _ _ h hP hS (lv_sub hl [] rfl)
                · have h := of_f h c12
                  refine lv_lconst (v := 1) hx hb dX0_binary_148 (by decide) ?_
                  refine lv_goto (tgt := 153) hx hb dX0_binary_149 (by decide) ?_
                  exact t_X0_binary_153  hF 1 σ _ _ _ h hP hS (lv_sub hl [] rfl)
            · have h := of_f h c10
              by_cases c13 : a0 = 268
              · have h := of_t h c13
                refine lv_lookup (tgt := 154) hx hb dX0_binary_1 (by decide) (by rw [c13]; try rfl) (by decide) ?_
                refine lv_lload_n hx hb dX0_binary_154 rfl (lv_at hl 1 rfl) ?_
                refine lv_lconst (v := 0) hx hb dX0_binary_155 (by decide) ?_
                refine W.lcmp hx hb dX0_binary_156 ?_
                refine lv_if_ne (tgt := 166) hx hb dX0_binary_157 (by decide) (fun c14 => ?_) (fun c14 => ?_)
                · have h := of_f h c14
                  exact t_X0_binary_166  hF σ _ _ _ h hP hS (lv_sub hl [] rfl)
                · have h := of_t h c14
                  refine lv_lload_n hx hb dX0_binary_160 rfl (lv_at hl 2 rfl) ?_
                  refine lv_lconst (v := 0) hx hb dX0_binary_161 (by decide) ?_
                  refine W.lcmp hx hb dX0_binary_162 ?_
                  refine lv_if_eq (tgt := 170) hx hb dX0_binary_163 (by decide) (fun c15 => ?_) (fun c15 => ?_)
                  · have h := of_t h c15
                    refine lv_lconst (v := 0) hx hb dX0_binary_170 (by decide) ?_
                    exact t_X0_binary_171  hF 0 σ _ _ _ h hP hS (lv_sub hl [] rfl)
                  · have h := of_f h c15
                    exact t_X0_binary_166  hF σ _ _ _ h hP hS (lv_sub hl [] rfl)
              · have h := of_f h c13
                by_cases c16 : a0 = 270
                · have h := of_t h c16
                  refine lv_lookup (tgt := 124) hx hb dX0_binary_1 (by decide) (by rw [c16]; try rfl) (by decide) ?_
                  refine lv_lload_n hx hb dX0_binary_124 rfl (lv_at hl 1 rfl) ?_
                  refine lv_lload_n hx hb dX0_binary_125 rfl (lv_at hl 2 rfl) ?_
                  refine va_mmin_long hx hb (by rw [hml]; exact hl.1.symm) hC.2.2.1 (hC.2.1 (Cond.methodLink RX0 61 Lib.MathLoose.min_long.x) (gw_t (tb6 (List.mem_of_getElem? (i := 126) rfl)) rfl)) (hC.2.1 (Cond.static Lib.MathLoose.min_long.x) (gw_t (tb6 (List.mem_of_getElem? (i := 127) rfl)) rfl)) (hC.2.1 (Cond.initialized "java/lang/Math") (gw_t (tb1 (List.mem_of_getElem? (i := 16) rfl)) rfl)) (hC.2.1 (Cond.code Lib.MathLoose.min_long.x Lib.MathLoose.min_long.code 4 (some .long)) (gw_t (tb6 (List.mem_of_getElem? (i := 128) rfl)) rfl)) (Nat.le_of_ble_eq_true rfl) (Nat.le_of_ble_eq_true rfl) (Nat.zero_le _) (Nat.zero_le _) dX0_binary_126 ?_
                  exact x_lret hF hP hS h dX0_binary_129
                · have h := of_f h c16
                  by_cases c17 : a0 = 271
                  · have h := of_t h c17
                    refine lv_lookup (tgt := 130) hx hb dX0_binary_1 (by decide) (by rw [c17]; try rfl) (by decide) ?_
                    refine lv_lload_n hx hb dX0_binary_130 rfl (lv_at hl 1 rfl) ?_
                    refine lv_lload_n hx hb dX0_binary_131 rfl (lv_at hl 2 rfl) ?_
                    refine va_mmax_long hx hb (by rw [hml]; exact hl.1.symm) hC.2.2.1 (hC.2.1 (Cond.methodLink RX0 65 Lib.MathLoose.max_long.x) (gw_t (tb6 (List.mem_of_getElem? (i := 129) rfl)) rfl)) (hC.2.1 (Cond.static Lib.MathLoose.max_long.x) (gw_t (tb6 (List.mem_of_getElem? (i := 130) rfl)) rfl)) (hC.2.1 (Cond.initialized "java/lang/Math") (gw_t (tb1 (List.mem_of_getElem? (i := 16) rfl)) rfl)) (hC.2.1 (Cond.code Lib.MathLoose.max_long.x Lib.MathLoose.max_long.code 4 (some .long)) (gw_t (tb6 (List.mem_of_getElem? (i := 131) rfl)) rfl)) (Nat.le_of_ble_eq_true rfl) (Nat.le_of_ble_eq_true rfl) (Nat.zero_le _) (Nat.zero_le _) dX0_binary_132 ?_
                    exact x_lret hF hP hS h dX0_binary_135
                  · have h := of_f h c17
                    refine lv_lookup (off := 171) (tgt := 172) hx hb dX0_binary_1 (by decide) (by rw [lv_osw c1 (by decide), lv_osw c4 (by decide), lv_osw c5 (by decide), lv_osw c6 (by decide), lv_osw c7 (by decide), lv_osw c10 (by decide), lv_osw c13 (by decide), lv_osw c16 (by decide), lv_osw c17 (by decide)]; try rfl) (by decide) ?_
                    refine lv_iload_n hx hb dX0_binary_172 rfl (lv_at hl 0 rfl) ?_
                    refine lv_lload_n hx hb dX0_binary_173 rfl (lv_at hl 1 rfl) ?_
                    refine lv_lload_n hx hb dX0_binary_174 rfl (lv_at hl 2 rfl) ?_
                    obtain ⟨r18, σ19, g20, h⟩ := of_bnd h
                    refine x_SI (As := [.int a0, .long a1, .long a3]) (rest := []) hF hl hP hS (c_X0_isRelated g20) (cw_X0_68 hC rfl rfl ⟨Nat.le_of_ble_eq_true rfl, Nat.le_of_ble_eq_true rfl⟩) rfl rfl (Nat.le_of_ble_eq_true rfl) dX0_binary_175 ⟨Nat.zero_le _, Nat.zero_le _⟩ (fun H locs hP hS => ?_)
                    refine lv_if_eq (tgt := 185) hx hb dX0_binary_178 (by decide) (fun c21 => ?_) (fun c21 => ?_)
                    · have h := of_t h c21
                      refine lv_lconst (v := 0) hx hb dX0_binary_185 (by decide) ?_
                      exact t_X0_binary_186  hF 0 σ19 _ _ _ h hP hS (lv_sub hl [] rfl)
                    · have h := of_f h c21
                      refine lv_lconst (v := 1) hx hb dX0_binary_181 (by decide) ?_
                      refine lv_goto (tgt := 186) hx hb dX0_binary_182 (by decide) ?_
                      exact t_X0_binary_186  hF 1 σ19 _ _ _ h hP hS (lv_sub hl [] rfl)

abbrev rm_X0_reckon : Room := { frames := 2, cells := 0, slots := 0, locals := 51 }
def f_X0_reckon_12 (σ : Sta) : Option (Int64 × Sta) :=
  some (0, σ)
set_option maxHeartbeats 4000000 in
set_option maxRecDepth 100000 in
theorem t_X0_reckon_12 {l : Launch} {D : va_G} {Y : CYs} {E : Nat → Nat} {p : Program} {e : Env} {s : State} {m : MethodId} {args : Array Value} {below : List Frame} {meth : Method} {c : Code} (hF : Fr p s m args meth c RX0 cX0_reckon 8 (some .long) D Y E LC) {o : Int64 × Sta} : ∀ (σ : Sta) (H : Heap) (locs : List Loc) (ls : Array Slot), f_X0_reckon_12 σ = some o → va_P D vwCl (wd Y E σ 0 LC) H → va_S (AF E LC.length s.heap.size) s.heap H locs → lv_has ls 8 [] → WL p l e rm_X0_reckon s m args below meth c LC Y D E o H locs (F0 m 12 ls []) := by
  intro σ H locs ls h hP hS hl
  unfold f_X0_reckon_12 at h
  obtain ⟨hC, hb, hml, hr, hlk, hD, hSW⟩ := id hF
  have hx := hC.1
  refine lv_lconst (v := 0) hx hb dX0_reckon_12 (by decide) ?_
  exact x_lret hF hP hS h dX0_reckon_13

def f_X0_reckon_188 (k25 : Int32 → Int32 → Int32 → Int32 → Sta → Option (Int64 × Sta)) (v1 : Int32) (v3 : Int32) (v4 : Int32) (v5 : Int32) (σ : Sta) : Option (Int64 × Sta) :=
  lt (v5 + 1) (fun x1 =>
  k25 v1 v3 v4 x1 σ)
set_option maxHeartbeats 4000000 in
set_option maxRecDepth 100000 in
theorem t_X0_reckon_188 {l : Launch} {D : va_G} {Y : CYs} {E : Nat → Nat} {p : Program} {e : Env} {s : State} {m : MethodId} {args : Array Value} {below : List Frame} {meth : Method} {c : Code} (hF : Fr p s m args meth c RX0 cX0_reckon 8 (some .long) D Y E LC) {o : Int64 × Sta} (k25 : Int32 → Int32 → Int32 → Int32 → Sta → Option (Int64 × Sta)) (hk25 : ∀ (v1 : Int32) (v3 : Int32) (v4 : Int32) (v5 : Int32) (σ : Sta) (H : Heap) (locs : List Loc) (ls : Array Slot), k25 v1 v3 v4 v5 σ = some o → va_P D vwCl (wd Y E σ 0 LC) H → va_S (AF E LC.length s.heap.size) s.heap H locs → lv_has ls 8 [(0, .ref (E 2)), (1, .int v1), (2, .ref (E 32)), (3, .int v3), (4, .int v4), (5, .int v5)] → WL p l e rm_X0_reckon s m args below meth c LC Y D E o H locs (F0 m 25 ls [])) : ∀ (v1 : Int32) (v3 : Int32) (v4 : Int32) (v5 : Int32) (σ : Sta) (H : Heap) (locs : List Loc) (ls : Array Slot), f_X0_reckon_188 k25 v1 v3 v4 v5 σ = some o → va_P D vwCl (wd Y E σ 0 LC) H → va_S (AF E LC.length s.heap.size) s.heap H locs → lv_has ls 8 [(0, .ref (E 2)), (1, .int v1), (2, .ref (E 32)), (3, .int v3), (4, .int v4), (5, .int v5)] → WL p l e rm_X0_reckon s m args below meth c LC Y D E o H locs (F0 m 188 ls []) := by
  intro v1 v3 v4 v5 σ H locs ls h hP hS hl
  unfold f_X0_reckon_188 at h
  obtain ⟨hC, hb, hml, hr, hlk, hD, hSW⟩ := id hF
  have hx := hC.1
  obtain ⟨x1, ex1⟩ : ∃ y : Int32, y = v5 + 1 := ⟨_, rfl⟩
  have h := of_lt h ex1
  refine lv_iinc (v := x1) (lv' := [(5, .int x1), (0, .ref (E 2)), (1, .int v1), (2, .ref (E 32)), (3, .int v3), (4, .int v4)]) hx hb dX0_reckon_188 hl (k := 5) rfl (by rw [ex1]; rfl) (by decide) rfl (fun ls hl => ?_)
  refine lv_goto (tgt := 25) hx hb dX0_reckon_191 (by decide) ?_
  exact hk25 v1 v3 v4 x1 σ _ _ _ h hP hS (lv_sub hl [1, 2, 3, 4, 5, 0] rfl)

def f_X0_reckon_209 (s0 : Int64) (σ : Sta) : Option (Int64 × Sta) :=
  some (s0, σ)
set_option maxHeartbeats 4000000 in
set_option maxRecDepth 100000 in
theorem t_X0_reckon_209 {l : Launch} {D : va_G} {Y : CYs} {E : Nat → Nat} {p : Program} {e : Env} {s : State} {m : MethodId} {args : Array Value} {below : List Frame} {meth : Method} {c : Code} (hF : Fr p s m args meth c RX0 cX0_reckon 8 (some .long) D Y E LC) {o : Int64 × Sta} : ∀ (s0 : Int64) (σ : Sta) (H : Heap) (locs : List Loc) (ls : Array Slot), f_X0_reckon_209 s0 σ = some o → va_P D vwCl (wd Y E σ 0 LC) H → va_S (AF E LC.length s.heap.size) s.heap H locs → lv_has ls 8 [] → WL p l e rm_X0_reckon s m args below meth c LC Y D E o H locs (F0 m 209 ls [.long s0]) := by
  intro s0 σ H locs ls h hP hS hl
  unfold f_X0_reckon_209 at h
  obtain ⟨hC, hb, hml, hr, hlk, hD, hSW⟩ := id hF
  have hx := hC.1
  exact x_lret hF hP hS h dX0_reckon_209

def f_X0_reckon_25 : Nat → Int32 → Int32 → Int32 → Int32 → Sta → Option (Int64 × Sta)
  | 0, _, _, _, _, _ => none
  | n + 1, v1, v3, v4, v5, σ => if v1 < 0 ∨ 1500 ≤ (v1.toNatClampNeg) then none else (
    if gA σ 17 (v1.toNatClampNeg) ≤ v5 then
      if v4 ≤ 0 then
        f_X0_reckon_209 0 σ
      else
        if (0 : Int32) < 0 ∨ 60 ≤ ((0 : Int32).toNatClampNeg) then none else (
        f_X0_reckon_209 (gJ σ 18 ((0 : Int32).toNatClampNeg)) σ)
    else
      if v5 < 0 ∨ 1500 ≤ (v5.toNatClampNeg) then none else (
      lt (gA σ 14 (v5.toNatClampNeg)) (fun x6 =>
      if x6 = 274 then
        if v5 < 0 ∨ 1500 ≤ (v5.toNatClampNeg) then none else (
        bnd (f_X0_push v4 (gJ σ 15 (v5.toNatClampNeg)) σ) (fun r38 σ39 =>
        f_X0_reckon_188 (f_X0_reckon_25 n) v1 v3 r38 v5 σ39))
      else
        if x6 = 273 then
          if v5 < 0 ∨ 1500 ≤ (v5.toNatClampNeg) then none else (
          lt (v3 + ((gJ σ 15 (v5.toNatClampNeg)).toInt32)) (fun x30 =>
          bnd (f_X8_entry 32 600 x30 σ) (fun r31 σ32 =>
          bnd (f_X0_push v4 r31.toInt64 σ32) (fun r34 σ35 =>
          f_X0_reckon_188 (f_X0_reckon_25 n) v1 v3 r34 v5 σ35))))
        else
          bnd (f_X0_isUnary x6 σ) (fun r9 σ10 =>
          if r9 = 0 then
            if v4 < 2 then
              f_X0_reckon_188 (f_X0_reckon_25 n) v1 v3 v4 v5 σ10
            else
              lt (v4 + (-1)) (fun x14 =>
              if x14 - 1 < 0 ∨ 60 ≤ ((x14 - 1).toNatClampNeg) then none else (
              if x14 < 0 ∨ 60 ≤ (x14.toNatClampNeg) then none else (
              bnd (f_X0_binary x6 (gJ σ10 18 ((x14 - 1).toNatClampNeg)) (gJ σ10 18 (x14.toNatClampNeg)) σ10) (fun r17 σ18 =>
              if x14 - 1 < 0 ∨ 60 ≤ ((x14 - 1).toNatClampNeg) then none else (
              lt (sJ σ18 18 (vp_updL (gJ σ18 18) ((x14 - 1).toNatClampNeg) r17)) (fun σ21 =>
              f_X0_reckon_188 (f_X0_reckon_25 n) v1 v3 x14 v5 σ21))))))
          else
            if v4 < 1 then
              f_X0_reckon_188 (f_X0_reckon_25 n) v1 v3 v4 v5 σ10
            else
              if v4 - 1 < 0 ∨ 60 ≤ ((v4 - 1).toNatClampNeg) then none else (
              bnd (f_X0_unary x6 (gJ σ10 18 ((v4 - 1).toNatClampNeg)) σ10) (fun r24 σ25 =>
              if v4 - 1 < 0 ∨ 60 ≤ ((v4 - 1).toNatClampNeg) then none else (
              lt (sJ σ25 18 (vp_updL (gJ σ25 18) ((v4 - 1).toNatClampNeg) r24)) (fun σ28 =>
              f_X0_reckon_188 (f_X0_reckon_25 n) v1 v3 v4 v5 σ28))))))))
set_option maxHeartbeats 4000000 in
set_option maxRecDepth 100000 in
theorem t_X0_reckon_25 {l : Launch} {D : va_G} {Y : CYs} {E : Nat → Nat} {p : Program} {e : Env} {s : State} {m : MethodId} {args : Array Value} {below : List Frame} {meth : Method} {c : Code} (hF : Fr p s m args meth c RX0 cX0_reckon 8 (some .long) D Y E LC) {o : Int64 × Sta} : ∀ (n : Nat) (v1 : Int32) (v3 : Int32) (v4 : Int32) (v5 : Int32) (σ : Sta) (H : Heap) (locs : List Loc) (ls : Array Slot), f_X0_reckon_25 n v1 v3 v4 v5 σ = some o → va_P D vwCl (wd Y E σ 0 LC) H → va_S (AF E LC.length s.heap.size) s.heap H locs → lv_has ls 8 [(0, .ref (E 2)), (1, .int v1), (2, .ref (E 32)), (3, .int v3), (4, .int v4), (5, .int v5)] → WL p l e rm_X0_reckon s m args below meth c LC Y D E o H locs (F0 m 25 ls []) := by
  intro n
  induction n with
  | zero =>
    intro v1 v3 v4 v5 σ H locs ls h hP hS hl
    exact nomatch (show (none : Option (Int64 × Sta)) = some o from h)
  | succ n ih =>
    intro v1 v3 v4 v5 σ H locs ls h hP hS hl
    rw [f_X0_reckon_25] at h
    obtain ⟨hC, hb, hml, hr, hlk, hD, hSW⟩ := id hF
    have hx := hC.1
    refine lv_iload hx hb dX0_reckon_25 (lv_at hl 5 rfl) ?_
    refine lv_aload_n hx hb dX0_reckon_27 rfl (lv_at hl 0 rfl) ?_
    refine gf_X0_22 hC hb hP dX0_reckon_28 ?_
    refine lv_iload_n hx hb dX0_reckon_31 rfl (lv_at hl 1 rfl) ?_
    obtain ⟨g1, h⟩ := of_gd h
    refine x_iald hC hb hP lc_17 g1 dX0_reckon_32 ?_
    refine lv_icmp_ge (tgt := 194) hx hb dX0_reckon_33 (by decide) (fun c2 => ?_) (fun c2 => ?_)
    · have h := of_t h c2
      refine lv_iload hx hb dX0_reckon_194 (lv_at hl 4 rfl) ?_
      refine lv_if_le (tgt := 208) hx hb dX0_reckon_196 (by decide) (fun c3 => ?_) (fun c3 => ?_)
      · have h := of_t h c3
        refine lv_lconst (v := 0) hx hb dX0_reckon_208 (by decide) ?_
        exact t_X0_reckon_209  hF 0 σ _ _ _ h hP hS (lv_sub hl [] rfl)
      · have h := of_f h c3
        refine lv_aload_n hx hb dX0_reckon_199 rfl (lv_at hl 0 rfl) ?_
        refine gf_X0_25 hC hb hP dX0_reckon_200 ?_
        refine lv_iconst (v := 0) hx hb dX0_reckon_203 (by decide) ?_
        obtain ⟨g4, h⟩ := of_gd h
        refine x_lald hC hb hP lc_18 g4 dX0_reckon_204 ?_
        refine lv_goto (tgt := 209) hx hb dX0_reckon_205 (by decide) ?_
        exact t_X0_reckon_209  hF (gJ σ 18 ((0 : Int32).toNatClampNeg)) σ _ _ _ h hP hS (lv_sub hl [] rfl)
    · have h := of_f h c2
      refine lv_aload_n hx hb dX0_reckon_36 rfl (lv_at hl 0 rfl) ?_
      refine gf_X0_9 hC hb hP dX0_reckon_37 ?_
      refine lv_iload hx hb dX0_reckon_40 (lv_at hl 5 rfl) ?_
      obtain ⟨g5, h⟩ := of_gd h
      refine x_iald hC hb hP lc_14 g5 dX0_reckon_42 ?_
      refine lv_topi (fun x6 ex6 => ?_)
      have h := of_lt h ex6
      refine lv_istore (lv' := [(6, .int x6), (0, .ref (E 2)), (1, .int v1), (2, .ref (E 32)), (3, .int v3), (4, .int v4), (5, .int v5)]) hx hb dX0_reckon_43 hl (by decide) rfl (fun ls hl => ?_)
      refine lv_iload hx hb dX0_reckon_45 (lv_at hl 0 rfl) ?_
      refine lv_sipush (v := 274) hx hb dX0_reckon_47 (by decide) ?_
      refine lv_icmp_ne (tgt := 71) hx hb dX0_reckon_50 (by decide) (fun c7 => ?_) (fun c7 => ?_)
      · have h := of_f h c7
        refine lv_iload hx hb dX0_reckon_71 (lv_at hl 0 rfl) ?_
        refine lv_sipush (v := 273) hx hb dX0_reckon_73 (by decide) ?_
        refine lv_icmp_ne (tgt := 109) hx hb dX0_reckon_76 (by decide) (fun c8 => ?_) (fun c8 => ?_)
        · have h := of_f h c8
          refine lv_iload hx hb dX0_reckon_109 (lv_at hl 0 rfl) ?_
          obtain ⟨r9, σ10, g11, h⟩ := of_bnd h
          refine x_SI (As := [.int x6]) (rest := []) hF hl hP hS (c_X0_isUnary g11) (cw_X0_43 hC rfl rfl ⟨Nat.le_of_ble_eq_true rfl, Nat.le_of_ble_eq_true rfl⟩) rfl rfl (Nat.le_of_ble_eq_true rfl) dX0_reckon_111 ⟨Nat.zero_le _, Nat.zero_le _⟩ (fun H locs hP hS => ?_)
          refine lv_if_eq (tgt := 149) hx hb dX0_reckon_114 (by decide) (fun c12 => ?_) (fun c12 => ?_)
          · have h := of_t h c12
            refine lv_iload hx hb dX0_reckon_149 (lv_at hl 5 rfl) ?_
            refine lv_iconst (v := 2) hx hb dX0_reckon_151 (by decide) ?_
            refine lv_icmp_lt (tgt := 188) hx hb dX0_reckon_152 (by decide) (fun c13 => ?_) (fun c13 => ?_)
            · have h := of_t h c13
              exact t_X0_reckon_188  hF (f_X0_reckon_25 n) ih v1 v3 v4 v5 σ10 _ _ _ h hP hS (lv_sub hl [1, 2, 3, 4, 5, 6] rfl)
            · have h := of_f h c13
              obtain ⟨x14, ex14⟩ : ∃ y : Int32, y = v4 + (-1) := ⟨_, rfl⟩
              have h := of_lt h ex14
              refine lv_iinc (v := x14) (lv' := [(4, .int x14), (6, .int x6), (0, .ref (E 2)), (1, .int v1), (2, .ref (E 32)), (3, .int v3), (5, .int v5)]) hx hb dX0_reckon_155 hl (k := 5) rfl (by rw [ex14]; rfl) (by decide) rfl (fun ls hl => ?_)
              refine lv_aload_n hx hb dX0_reckon_158 rfl (lv_at hl 2 rfl) ?_
              refine gf_X0_25 hC hb hP dX0_reckon_159 ?_
              refine lv_iload hx hb dX0_reckon_162 (lv_at hl 0 rfl) ?_
              refine lv_iconst (v := 1) hx hb dX0_reckon_164 (by decide) ?_
              refine lv_isub hx hb dX0_reckon_165 ?_
              refine lv_iload hx hb dX0_reckon_166 (lv_at hl 1 rfl) ?_
              refine lv_aload_n hx hb dX0_reckon_168 rfl (lv_at hl 2 rfl) ?_
              refine gf_X0_25 hC hb hP dX0_reckon_169 ?_
              refine lv_iload hx hb dX0_reckon_172 (lv_at hl 0 rfl) ?_
              refine lv_iconst (v := 1) hx hb dX0_reckon_174 (by decide) ?_
              refine lv_isub hx hb dX0_reckon_175 ?_
              obtain ⟨g15, h⟩ := of_gd h
              refine x_lald hC hb hP lc_18 g15 dX0_reckon_176 ?_
              refine lv_aload_n hx hb dX0_reckon_177 rfl (lv_at hl 2 rfl) ?_
              refine gf_X0_25 hC hb hP dX0_reckon_178 ?_
              refine lv_iload hx hb dX0_reckon_181 (lv_at hl 0 rfl) ?_
              obtain ⟨g16, h⟩ := of_gd h
              refine x_lald hC hb hP lc_18 g16 dX0_reckon_183 ?_
              obtain ⟨r17, σ18, g19, h⟩ := of_bnd h
              refine x_SL (As := [.int x6, .long (gJ σ10 18 ((x14 - 1).toNatClampNeg)), .long (gJ σ10 18 (x14.toNatClampNeg))]) (rest := [.int (x14 - 1), .ref (E 18)]) hF hl hP hS (c_X0_binary g19) (cw_X0_51 hC rfl rfl ⟨Nat.le_of_ble_eq_true rfl, Nat.le_of_ble_eq_true rfl⟩) rfl rfl (Nat.le_of_ble_eq_true rfl) dX0_reckon_184 ⟨Nat.zero_le _, Nat.zero_le _⟩ (fun H locs hP hS => ?_)
              obtain ⟨g20, h⟩ := of_gd h
              refine x_last lokC hC hb hP hD hS lc_18 g20 dX0_reckon_187 (fun H locs σ21 eσ21 hP hS => ?_)
              have h := of_lt h eσ21
              exact t_X0_reckon_188  hF (f_X0_reckon_25 n) ih v1 v3 x14 v5 σ21 _ _ _ h hP hS (lv_sub hl [2, 3, 4, 5, 0, 6] rfl)
          · have h := of_f h c12
            refine lv_iload hx hb dX0_reckon_117 (lv_at hl 5 rfl) ?_
            refine lv_iconst (v := 1) hx hb dX0_reckon_119 (by decide) ?_
            refine lv_icmp_lt (tgt := 188) hx hb dX0_reckon_120 (by decide) (fun c22 => ?_) (fun c22 => ?_)
            · have h := of_t h c22
              exact t_X0_reckon_188  hF (f_X0_reckon_25 n) ih v1 v3 v4 v5 σ10 _ _ _ h hP hS (lv_sub hl [1, 2, 3, 4, 5, 6] rfl)
            · have h := of_f h c22
              refine lv_aload_n hx hb dX0_reckon_123 rfl (lv_at hl 1 rfl) ?_
              refine gf_X0_25 hC hb hP dX0_reckon_124 ?_
              refine lv_iload hx hb dX0_reckon_127 (lv_at hl 5 rfl) ?_
              refine lv_iconst (v := 1) hx hb dX0_reckon_129 (by decide) ?_
              refine lv_isub hx hb dX0_reckon_130 ?_
              refine lv_iload hx hb dX0_reckon_131 (lv_at hl 0 rfl) ?_
              refine lv_aload_n hx hb dX0_reckon_133 rfl (lv_at hl 1 rfl) ?_
              refine gf_X0_25 hC hb hP dX0_reckon_134 ?_
              refine lv_iload hx hb dX0_reckon_137 (lv_at hl 5 rfl) ?_
              refine lv_iconst (v := 1) hx hb dX0_reckon_139 (by decide) ?_
              refine lv_isub hx hb dX0_reckon_140 ?_
              obtain ⟨g23, h⟩ := of_gd h
              refine x_lald hC hb hP lc_18 g23 dX0_reckon_141 ?_
              obtain ⟨r24, σ25, g26, h⟩ := of_bnd h
              refine x_SL (As := [.int x6, .long (gJ σ10 18 ((v4 - 1).toNatClampNeg))]) (rest := [.int (v4 - 1), .ref (E 18)]) hF hl hP hS (c_X0_unary g26) (cw_X0_47 hC rfl rfl ⟨Nat.le_of_ble_eq_true rfl, Nat.le_of_ble_eq_true rfl⟩) rfl rfl (Nat.le_of_ble_eq_true rfl) dX0_reckon_142 ⟨Nat.zero_le _, Nat.zero_le _⟩ (fun H locs hP hS => ?_)
              obtain ⟨g27, h⟩ := of_gd h
              refine x_last lokC hC hb hP hD hS lc_18 g27 dX0_reckon_145 (fun H locs σ28 eσ28 hP hS => ?_)
              have h := of_lt h eσ28
              refine lv_goto (tgt := 188) hx hb dX0_reckon_146 (by decide) ?_
              exact t_X0_reckon_188  hF (f_X0_reckon_25 n) ih v1 v3 v4 v5 σ28 _ _ _ h hP hS (lv_sub hl [1, 2, 3, 4, 5, 6] rfl)
        · have h := of_t h c8
          refine lv_iload_n hx hb dX0_reckon_79 rfl (lv_at hl 4 rfl) ?_
          refine lv_aload_n hx hb dX0_reckon_80 rfl (lv_at hl 1 rfl) ?_
          refine gf_X0_15 hC hb hP dX0_reckon_81 ?_
          refine lv_iload hx hb dX0_reckon_84 (lv_at hl 6 rfl) ?_
          obtain ⟨g29, h⟩ := of_gd h
          refine x_lald hC hb hP lc_15 g29 dX0_reckon_86 ?_
          refine lv_l2i (v := (gJ σ 15 (v5.toNatClampNeg)).toInt32) hx hb dX0_reckon_87 rfl ?_
          refine lv_iadd hx hb dX0_reckon_88 ?_
          refine lv_topi (fun x30 ex30 => ?_)
          have h := of_lt h ex30
          refine lv_istore (lv' := [(7, .int x30), (6, .int x6), (0, .ref (E 2)), (1, .int v1), (2, .ref (E 32)), (3, .int v3), (4, .int v4), (5, .int v5)]) hx hb dX0_reckon_89 hl (by decide) rfl (fun ls hl => ?_)
          refine lv_aload_n hx hb dX0_reckon_91 rfl (lv_at hl 2 rfl) ?_
          refine lv_iload hx hb dX0_reckon_92 (lv_at hl 6 rfl) ?_
          refine lv_aload_n hx hb dX0_reckon_94 rfl (lv_at hl 4 rfl) ?_
          refine lv_iload hx hb dX0_reckon_95 (lv_at hl 0 rfl) ?_
          obtain ⟨r31, σ32, g33, h⟩ := of_bnd h
          refine x_SNI (As := [.ref (E 32), .int x30]) (rest := [.int v4, .ref (E 2)]) hF hl hP hS (c_X8_entry lc_32 g33) (cw_X0_39 hC rfl rfl ⟨Nat.le_of_ble_eq_true rfl, Nat.le_of_ble_eq_true rfl⟩) rfl rfl (Nat.le_of_ble_eq_true rfl) dX0_reckon_97 ⟨Nat.zero_le _, Nat.zero_le _⟩ (fun H locs hP hS => ?_)
          refine lv_i2l (v := r31.toInt64) hx hb dX0_reckon_100 rfl ?_
          obtain ⟨r34, σ35, g36, h⟩ := of_bnd h
          refine x_VI (As := [.int v4, .long r31.toInt64]) (rest := []) hF hl hP hS (c_X0_push g36) (cw_X0_35 hC rfl rfl ⟨Nat.le_of_ble_eq_true rfl, Nat.le_of_ble_eq_true rfl⟩) lc_2 rfl rfl rfl (Nat.le_of_ble_eq_true rfl) dX0_reckon_101 ⟨Nat.zero_le _, Nat.zero_le _⟩ (fun H locs hP hS => ?_)
          refine lv_istore (lv' := [(4, .int r34), (7, .int x30), (6, .int x6), (0, .ref (E 2)), (1, .int v1), (2, .ref (E 32)), (3, .int v3), (5, .int v5)]) hx hb dX0_reckon_104 hl (by decide) rfl (fun ls hl => ?_)
          refine lv_goto (tgt := 188) hx hb dX0_reckon_106 (by decide) ?_
          exact t_X0_reckon_188  hF (f_X0_reckon_25 n) ih v1 v3 r34 v5 σ35 _ _ _ h hP hS (lv_sub hl [3, 4, 5, 6, 0, 7] rfl)
      · have h := of_t h c7
        refine lv_aload_n hx hb dX0_reckon_53 rfl (lv_at hl 1 rfl) ?_
        refine lv_iload hx hb dX0_reckon_54 (lv_at hl 5 rfl) ?_
        refine lv_aload_n hx hb dX0_reckon_56 rfl (lv_at hl 1 rfl) ?_
        refine gf_X0_15 hC hb hP dX0_reckon_57 ?_
        refine lv_iload hx hb dX0_reckon_60 (lv_at hl 6 rfl) ?_
        obtain ⟨g37, h⟩ := of_gd h
        refine x_lald hC hb hP lc_15 g37 dX0_reckon_62 ?_
        obtain ⟨r38, σ39, g40, h⟩ := of_bnd h
        refine x_VI (As := [.int v4, .long (gJ σ 15 (v5.toNatClampNeg))]) (rest := []) hF hl hP hS (c_X0_push g40) (cw_X0_35 hC rfl rfl ⟨Nat.le_of_ble_eq_true rfl, Nat.le_of_ble_eq_true rfl⟩) lc_2 rfl rfl rfl (Nat.le_of_ble_eq_true rfl) dX0_reckon_63 ⟨Nat.zero_le _, Nat.zero_le _⟩ (fun H locs hP hS => ?_)
        refine lv_istore (lv' := [(4, .int r38), (6, .int x6), (0, .ref (E 2)), (1, .int v1), (2, .ref (E 32)), (3, .int v3), (5, .int v5)]) hx hb dX0_reckon_66 hl (by decide) rfl (fun ls hl => ?_)
        refine lv_goto (tgt := 188) hx hb dX0_reckon_68 (by decide) ?_
        exact t_X0_reckon_188  hF (f_X0_reckon_25 n) ih v1 v3 r38 v5 σ39 _ _ _ h hP hS (lv_sub hl [2, 3, 4, 5, 0, 6] rfl)

def f_X0_reckon (a1 : Int32) (a3 : Int32) (σ : Sta) : Option (Int64 × Sta) :=
  if a1 < 0 then
    f_X0_reckon_12 σ
  else
    if a1 < gI σ 133 then
      if a1 < 0 ∨ 1500 ≤ (a1.toNatClampNeg) then none else (
      lt (gA σ 16 (a1.toNatClampNeg)) (fun x4 =>
      f_X0_reckon_25 FU a1 a3 0 x4 σ))
    else
      f_X0_reckon_12 σ
set_option maxHeartbeats 4000000 in
set_option maxRecDepth 100000 in
theorem c_X0_reckon {l : Launch} {D : va_G} {Y : CYs} {E : Nat → Nat} {a1 : Int32} {a3 : Int32} {σ : Sta} {o : Int64 × Sta} (h : f_X0_reckon a1 a3 σ = some o) : ML l yX0_reckon (Cond.code yX0_reckon cX0_reckon 8 (some .long) :: gW) rm_X0_reckon LC Y D E [.ref (E 2), .int a1, .ref (E 32), .int a3] σ o := by
  intro sz
  refine Met_of (Qc := fun sz => QL LC Y D E sz o) (by decide) (Nat.le_of_ble_eq_true rfl) (fun p e s m args below meth c hF hP ls hl => ?_) sz
  have hS : va_S (AF E LC.length s.heap.size) s.heap s.heap [] := va_S.rf
  have hl : lv_has ls 8 [(0, .ref (E 2)), (1, .int a1), (2, .ref (E 32)), (3, .int a3)] := hl
  show WL p l e rm_X0_reckon s m args below meth c LC Y D E o s.heap [] (F0 m 0 ls [])
  unfold f_X0_reckon at h
  obtain ⟨hC, hb, hml, hr, hlk, hD, hSW⟩ := id hF
  have hx := hC.1
  refine lv_iload_n hx hb dX0_reckon_0 rfl (lv_at hl 1 rfl) ?_
  refine lv_if_lt (tgt := 12) hx hb dX0_reckon_1 (by decide) (fun c1 => ?_) (fun c1 => ?_)
  · have h := of_t h c1
    exact t_X0_reckon_12  hF σ _ _ _ h hP hS (lv_sub hl [] rfl)
  · have h := of_f h c1
    refine lv_iload_n hx hb dX0_reckon_4 rfl (lv_at hl 1 rfl) ?_
    refine lv_aload_n hx hb dX0_reckon_5 rfl (lv_at hl 0 rfl) ?_
    refine gf_X0_32 hC hb hP dX0_reckon_6 ?_
    refine lv_icmp_lt (tgt := 14) hx hb dX0_reckon_9 (by decide) (fun c2 => ?_) (fun c2 => ?_)
    · have h := of_t h c2
      refine lv_iconst (v := 0) hx hb dX0_reckon_14 (by decide) ?_
      refine lv_istore (lv' := [(4, .int 0), (0, .ref (E 2)), (1, .int a1), (2, .ref (E 32)), (3, .int a3)]) hx hb dX0_reckon_15 hl (by decide) rfl (fun ls hl => ?_)
      refine lv_aload_n hx hb dX0_reckon_17 rfl (lv_at hl 1 rfl) ?_
      refine gf_X0_19 hC hb hP dX0_reckon_18 ?_
      refine lv_iload_n hx hb dX0_reckon_21 rfl (lv_at hl 2 rfl) ?_
      obtain ⟨g3, h⟩ := of_gd h
      refine x_iald hC hb hP lc_16 g3 dX0_reckon_22 ?_
      refine lv_topi (fun x4 ex4 => ?_)
      have h := of_lt h ex4
      refine lv_istore (lv' := [(5, .int x4), (4, .int 0), (0, .ref (E 2)), (1, .int a1), (2, .ref (E 32)), (3, .int a3)]) hx hb dX0_reckon_23 hl (by decide) rfl (fun ls hl => ?_)
      exact t_X0_reckon_25  hF FU a1 a3 0 x4 σ _ _ _ h hP hS (lv_sub hl [2, 3, 4, 5, 1, 0] rfl)
    · have h := of_f h c2
      exact t_X0_reckon_12  hF σ _ _ _ h hP hS (lv_sub hl [] rfl)

abbrev rm_X4_clear : Room := { frames := 0, cells := 0, slots := 0, locals := 0 }
def f_X4_clear (σ : Sta) : Option (Unit × Sta) :=
  lt (sI σ 192 0) (fun σ1 =>
  lt (sI σ1 197 0) (fun σ2 =>
  lt (sI σ2 202 0) (fun σ3 =>
  lt (sI σ3 201 (-1)) (fun σ4 =>
  some ((), σ4)))))
set_option maxHeartbeats 4000000 in
set_option maxRecDepth 100000 in
theorem c_X4_clear {l : Launch} {D : va_G} {Y : CYs} {E : Nat → Nat} {σ : Sta} {o : Unit × Sta} (h : f_X4_clear σ = some o) : MV l yX4_clear (Cond.code yX4_clear cX4_clear 1 none :: gW) rm_X4_clear LC Y D E [.ref (E 3)] σ o := by
  intro sz
  refine Met_of (Qc := fun sz => QV LC Y D E sz o) (by decide) (Nat.le_of_ble_eq_true rfl) (fun p e s m args below meth c hF hP ls hl => ?_) sz
  have hS : va_S (AF E LC.length s.heap.size) s.heap s.heap [] := va_S.rf
  have hl : lv_has ls 1 [(0, .ref (E 3))] := hl
  show WV p l e rm_X4_clear s m args below meth c LC Y D E o s.heap [] (F0 m 0 ls [])
  unfold f_X4_clear at h
  obtain ⟨hC, hb, hml, hr, hlk, hD, hSW⟩ := id hF
  have hx := hC.1
  refine lv_aload_n hx hb dX4_clear_0 rfl (lv_at hl 0 rfl) ?_
  refine lv_iconst (v := 0) hx hb dX4_clear_1 (by decide) ?_
  refine pf_X4_56 hC hb hP hD hS dX4_clear_2 (fun H locs σ1 eσ1 hP hS => ?_)
  have h := of_lt h eσ1
  refine lv_aload_n hx hb dX4_clear_5 rfl (lv_at hl 0 rfl) ?_
  refine lv_iconst (v := 0) hx hb dX4_clear_6 (by decide) ?_
  refine pf_X4_59 hC hb hP hD hS dX4_clear_7 (fun H locs σ2 eσ2 hP hS => ?_)
  have h := of_lt h eσ2
  refine lv_aload_n hx hb dX4_clear_10 rfl (lv_at hl 0 rfl) ?_
  refine lv_iconst (v := 0) hx hb dX4_clear_11 (by decide) ?_
  refine pf_X4_62 hC hb hP hD hS dX4_clear_12 (fun H locs σ3 eσ3 hP hS => ?_)
  have h := of_lt h eσ3
  refine lv_aload_n hx hb dX4_clear_15 rfl (lv_at hl 0 rfl) ?_
  refine lv_iconst (v := -1) hx hb dX4_clear_16 (by decide) ?_
  refine pf_X4_34 hC hb hP hD hS dX4_clear_17 (fun H locs σ4 eσ4 hP hS => ?_)
  have h := of_lt h eσ4
  exact x_vret hF hP hS h dX4_clear_20

abbrev rm_X4_addVariable : Room := { frames := 0, cells := 0, slots := 0, locals := 0 }
def f_X4_addVariable_61 (σ : Sta) : Option (Unit × Sta) :=
  some ((), σ)
set_option maxHeartbeats 4000000 in
set_option maxRecDepth 100000 in
theorem t_X4_addVariable_61 {l : Launch} {D : va_G} {Y : CYs} {E : Nat → Nat} {p : Program} {e : Env} {s : State} {m : MethodId} {args : Array Value} {below : List Frame} {meth : Method} {c : Code} (hF : Fr p s m args meth c RX4 cX4_addVariable 6 none D Y E LC) {o : Unit × Sta} : ∀ (σ : Sta) (H : Heap) (locs : List Loc) (ls : Array Slot), f_X4_addVariable_61 σ = some o → va_P D vwCl (wd Y E σ 0 LC) H → va_S (AF E LC.length s.heap.size) s.heap H locs → lv_has ls 6 [] → WV p l e rm_X4_addVariable s m args below meth c LC Y D E o H locs (F0 m 61 ls []) := by
  intro σ H locs ls h hP hS hl
  unfold f_X4_addVariable_61 at h
  obtain ⟨hC, hb, hml, hr, hlk, hD, hSW⟩ := id hF
  have hx := hC.1
  exact x_vret hF hP hS h dX4_addVariable_61

def f_X4_addVariable (a1 : Int64) (a3 : Int32) (a4 : Int32) (a5 : Int32) (σ : Sta) : Option (Unit × Sta) :=
  if 6 ≤ gI σ 192 then
    f_X4_addVariable_61 σ
  else
    if gI σ 192 < 0 ∨ 6 ≤ ((gI σ 192).toNatClampNeg) then none else (
    lt (sJ σ 19 (vp_updL (gJ σ 19) ((gI σ 192).toNatClampNeg) a1)) (fun σ3 =>
    if gI σ3 192 < 0 ∨ 6 ≤ ((gI σ3 192).toNatClampNeg) then none else (
    lt (sA σ3 20 (upd (gA σ3 20) ((gI σ3 192).toNatClampNeg) a3)) (fun σ5 =>
    if gI σ5 192 < 0 ∨ 6 ≤ ((gI σ5 192).toNatClampNeg) then none else (
    lt (sA σ5 21 (upd (gA σ5 21) ((gI σ5 192).toNatClampNeg) a4)) (fun σ7 =>
    if gI σ7 192 < 0 ∨ 6 ≤ ((gI σ7 192).toNatClampNeg) then none else (
    lt (sA σ7 22 (upd (gA σ7 22) ((gI σ7 192).toNatClampNeg) a5)) (fun σ9 =>
    lt (sI σ9 192 ((gI σ9 192) + 1)) (fun σ10 =>
    f_X4_addVariable_61 σ10)))))))))
set_option maxHeartbeats 4000000 in
set_option maxRecDepth 100000 in
theorem c_X4_addVariable {l : Launch} {D : va_G} {Y : CYs} {E : Nat → Nat} {a1 : Int64} {a3 : Int32} {a4 : Int32} {a5 : Int32} {σ : Sta} {o : Unit × Sta} (h : f_X4_addVariable a1 a3 a4 a5 σ = some o) : MV l yX4_addVariable (Cond.code yX4_addVariable cX4_addVariable 6 none :: gW) rm_X4_addVariable LC Y D E [.ref (E 3), .long a1, .int a3, .int a4, .int a5] σ o := by
  intro sz
  refine Met_of (Qc := fun sz => QV LC Y D E sz o) (by decide) (Nat.le_of_ble_eq_true rfl) (fun p e s m args below meth c hF hP ls hl => ?_) sz
  have hS : va_S (AF E LC.length s.heap.size) s.heap s.heap [] := va_S.rf
  have hl : lv_has ls 6 [(0, .ref (E 3)), (1, .long a1), (3, .int a3), (4, .int a4), (5, .int a5)] := hl
  show WV p l e rm_X4_addVariable s m args below meth c LC Y D E o s.heap [] (F0 m 0 ls [])
  unfold f_X4_addVariable at h
  obtain ⟨hC, hb, hml, hr, hlk, hD, hSW⟩ := id hF
  have hx := hC.1
  refine lv_aload_n hx hb dX4_addVariable_0 rfl (lv_at hl 0 rfl) ?_
  refine gf_X4_56 hC hb hP dX4_addVariable_1 ?_
  refine lv_bipush (v := 6) hx hb dX4_addVariable_4 (by decide) ?_
  refine lv_icmp_ge (tgt := 61) hx hb dX4_addVariable_6 (by decide) (fun c1 => ?_) (fun c1 => ?_)
  · have h := of_t h c1
    exact t_X4_addVariable_61  hF σ _ _ _ h hP hS (lv_sub hl [] rfl)
  · have h := of_f h c1
    refine lv_aload_n hx hb dX4_addVariable_9 rfl (lv_at hl 0 rfl) ?_
    refine gf_X4_9 hC hb hP dX4_addVariable_10 ?_
    refine lv_aload_n hx hb dX4_addVariable_13 rfl (lv_at hl 0 rfl) ?_
    refine gf_X4_56 hC hb hP dX4_addVariable_14 ?_
    refine lv_lload_n hx hb dX4_addVariable_17 rfl (lv_at hl 1 rfl) ?_
    obtain ⟨g2, h⟩ := of_gd h
    refine x_last lokC hC hb hP hD hS lc_19 g2 dX4_addVariable_18 (fun H locs σ3 eσ3 hP hS => ?_)
    have h := of_lt h eσ3
    refine lv_aload_n hx hb dX4_addVariable_19 rfl (lv_at hl 0 rfl) ?_
    refine gf_X4_15 hC hb hP dX4_addVariable_20 ?_
    refine lv_aload_n hx hb dX4_addVariable_23 rfl (lv_at hl 0 rfl) ?_
    refine gf_X4_56 hC hb hP dX4_addVariable_24 ?_
    refine lv_iload_n hx hb dX4_addVariable_27 rfl (lv_at hl 2 rfl) ?_
    obtain ⟨g4, h⟩ := of_gd h
    refine x_iast lokC hC hb hP hD hS lc_20 g4 dX4_addVariable_28 (fun H locs σ5 eσ5 hP hS => ?_)
    have h := of_lt h eσ5
    refine lv_aload_n hx hb dX4_addVariable_29 rfl (lv_at hl 0 rfl) ?_
    refine gf_X4_19 hC hb hP dX4_addVariable_30 ?_
    refine lv_aload_n hx hb dX4_addVariable_33 rfl (lv_at hl 0 rfl) ?_
    refine gf_X4_56 hC hb hP dX4_addVariable_34 ?_
    refine lv_iload hx hb dX4_addVariable_37 (lv_at hl 3 rfl) ?_
    obtain ⟨g6, h⟩ := of_gd h
    refine x_iast lokC hC hb hP hD hS lc_21 g6 dX4_addVariable_39 (fun H locs σ7 eσ7 hP hS => ?_)
    have h := of_lt h eσ7
    refine lv_aload_n hx hb dX4_addVariable_40 rfl (lv_at hl 0 rfl) ?_
    refine gf_X4_22 hC hb hP dX4_addVariable_41 ?_
    refine lv_aload_n hx hb dX4_addVariable_44 rfl (lv_at hl 0 rfl) ?_
    refine gf_X4_56 hC hb hP dX4_addVariable_45 ?_
    refine lv_iload hx hb dX4_addVariable_48 (lv_at hl 4 rfl) ?_
    obtain ⟨g8, h⟩ := of_gd h
    refine x_iast lokC hC hb hP hD hS lc_22 g8 dX4_addVariable_50 (fun H locs σ9 eσ9 hP hS => ?_)
    have h := of_lt h eσ9
    refine lv_aload_n hx hb dX4_addVariable_51 rfl (lv_at hl 0 rfl) ?_
    refine lv_dup hx hb dX4_addVariable_52 rfl ?_
    refine gf_X4_56 hC hb hP dX4_addVariable_53 ?_
    refine lv_iconst (v := 1) hx hb dX4_addVariable_56 (by decide) ?_
    refine lv_iadd hx hb dX4_addVariable_57 ?_
    refine pf_X4_56 hC hb hP hD hS dX4_addVariable_58 (fun H locs σ10 eσ10 hP hS => ?_)
    have h := of_lt h eσ10
    exact t_X4_addVariable_61  hF σ10 _ _ _ h hP hS (lv_sub hl [] rfl)

abbrev rm_X4_addGain : Room := { frames := 0, cells := 0, slots := 0, locals := 0 }
def f_X4_addGain_49 (σ : Sta) : Option (Unit × Sta) :=
  some ((), σ)
set_option maxHeartbeats 4000000 in
set_option maxRecDepth 100000 in
theorem t_X4_addGain_49 {l : Launch} {D : va_G} {Y : CYs} {E : Nat → Nat} {p : Program} {e : Env} {s : State} {m : MethodId} {args : Array Value} {below : List Frame} {meth : Method} {c : Code} (hF : Fr p s m args meth c RX4 cX4_addGain 5 none D Y E LC) {o : Unit × Sta} : ∀ (σ : Sta) (H : Heap) (locs : List Loc) (ls : Array Slot), f_X4_addGain_49 σ = some o → va_P D vwCl (wd Y E σ 0 LC) H → va_S (AF E LC.length s.heap.size) s.heap H locs → lv_has ls 5 [] → WV p l e rm_X4_addGain s m args below meth c LC Y D E o H locs (F0 m 49 ls []) := by
  intro σ H locs ls h hP hS hl
  unfold f_X4_addGain_49 at h
  obtain ⟨hC, hb, hml, hr, hlk, hD, hSW⟩ := id hF
  have hx := hC.1
  exact x_vret hF hP hS h dX4_addGain_49

def f_X4_addGain (a1 : Int64) (a3 : Int32) (a4 : Int32) (σ : Sta) : Option (Unit × Sta) :=
  if 3 ≤ gI σ 197 then
    f_X4_addGain_49 σ
  else
    if gI σ 197 < 0 ∨ 3 ≤ ((gI σ 197).toNatClampNeg) then none else (
    lt (sJ σ 23 (vp_updL (gJ σ 23) ((gI σ 197).toNatClampNeg) a1)) (fun σ3 =>
    if gI σ3 197 < 0 ∨ 3 ≤ ((gI σ3 197).toNatClampNeg) then none else (
    lt (sA σ3 24 (upd (gA σ3 24) ((gI σ3 197).toNatClampNeg) a3)) (fun σ5 =>
    if gI σ5 197 < 0 ∨ 3 ≤ ((gI σ5 197).toNatClampNeg) then none else (
    lt (sA σ5 25 (upd (gA σ5 25) ((gI σ5 197).toNatClampNeg) a4)) (fun σ7 =>
    lt (sI σ7 197 ((gI σ7 197) + 1)) (fun σ8 =>
    f_X4_addGain_49 σ8)))))))
set_option maxHeartbeats 4000000 in
set_option maxRecDepth 100000 in
theorem c_X4_addGain {l : Launch} {D : va_G} {Y : CYs} {E : Nat → Nat} {a1 : Int64} {a3 : Int32} {a4 : Int32} {σ : Sta} {o : Unit × Sta} (h : f_X4_addGain a1 a3 a4 σ = some o) : MV l yX4_addGain (Cond.code yX4_addGain cX4_addGain 5 none :: gW) rm_X4_addGain LC Y D E [.ref (E 3), .long a1, .int a3, .int a4] σ o := by
  intro sz
  refine Met_of (Qc := fun sz => QV LC Y D E sz o) (by decide) (Nat.le_of_ble_eq_true rfl) (fun p e s m args below meth c hF hP ls hl => ?_) sz
  have hS : va_S (AF E LC.length s.heap.size) s.heap s.heap [] := va_S.rf
  have hl : lv_has ls 5 [(0, .ref (E 3)), (1, .long a1), (3, .int a3), (4, .int a4)] := hl
  show WV p l e rm_X4_addGain s m args below meth c LC Y D E o s.heap [] (F0 m 0 ls [])
  unfold f_X4_addGain at h
  obtain ⟨hC, hb, hml, hr, hlk, hD, hSW⟩ := id hF
  have hx := hC.1
  refine lv_aload_n hx hb dX4_addGain_0 rfl (lv_at hl 0 rfl) ?_
  refine gf_X4_59 hC hb hP dX4_addGain_1 ?_
  refine lv_iconst (v := 3) hx hb dX4_addGain_4 (by decide) ?_
  refine lv_icmp_ge (tgt := 49) hx hb dX4_addGain_5 (by decide) (fun c1 => ?_) (fun c1 => ?_)
  · have h := of_t h c1
    exact t_X4_addGain_49  hF σ _ _ _ h hP hS (lv_sub hl [] rfl)
  · have h := of_f h c1
    refine lv_aload_n hx hb dX4_addGain_8 rfl (lv_at hl 0 rfl) ?_
    refine gf_X4_25 hC hb hP dX4_addGain_9 ?_
    refine lv_aload_n hx hb dX4_addGain_12 rfl (lv_at hl 0 rfl) ?_
    refine gf_X4_59 hC hb hP dX4_addGain_13 ?_
    refine lv_lload_n hx hb dX4_addGain_16 rfl (lv_at hl 1 rfl) ?_
    obtain ⟨g2, h⟩ := of_gd h
    refine x_last lokC hC hb hP hD hS lc_23 g2 dX4_addGain_17 (fun H locs σ3 eσ3 hP hS => ?_)
    have h := of_lt h eσ3
    refine lv_aload_n hx hb dX4_addGain_18 rfl (lv_at hl 0 rfl) ?_
    refine gf_X4_28 hC hb hP dX4_addGain_19 ?_
    refine lv_aload_n hx hb dX4_addGain_22 rfl (lv_at hl 0 rfl) ?_
    refine gf_X4_59 hC hb hP dX4_addGain_23 ?_
    refine lv_iload_n hx hb dX4_addGain_26 rfl (lv_at hl 2 rfl) ?_
    obtain ⟨g4, h⟩ := of_gd h
    refine x_iast lokC hC hb hP hD hS lc_24 g4 dX4_addGain_27 (fun H locs σ5 eσ5 hP hS => ?_)
    have h := of_lt h eσ5
    refine lv_aload_n hx hb dX4_addGain_28 rfl (lv_at hl 0 rfl) ?_
    refine gf_X4_31 hC hb hP dX4_addGain_29 ?_
    refine lv_aload_n hx hb dX4_addGain_32 rfl (lv_at hl 0 rfl) ?_
    refine gf_X4_59 hC hb hP dX4_addGain_33 ?_
    refine lv_iload hx hb dX4_addGain_36 (lv_at hl 3 rfl) ?_
    obtain ⟨g6, h⟩ := of_gd h
    refine x_iast lokC hC hb hP hD hS lc_25 g6 dX4_addGain_38 (fun H locs σ7 eσ7 hP hS => ?_)
    have h := of_lt h eσ7
    refine lv_aload_n hx hb dX4_addGain_39 rfl (lv_at hl 0 rfl) ?_
    refine lv_dup hx hb dX4_addGain_40 rfl ?_
    refine gf_X4_59 hC hb hP dX4_addGain_41 ?_
    refine lv_iconst (v := 1) hx hb dX4_addGain_44 (by decide) ?_
    refine lv_iadd hx hb dX4_addGain_45 ?_
    refine pf_X4_59 hC hb hP hD hS dX4_addGain_46 (fun H locs σ8 eσ8 hP hS => ?_)
    have h := of_lt h eσ8
    exact t_X4_addGain_49  hF σ8 _ _ _ h hP hS (lv_sub hl [] rfl)

abbrev rm_X4_addCommand : Room := { frames := 0, cells := 0, slots := 0, locals := 0 }
def f_X4_addCommand_60 (σ : Sta) : Option (Unit × Sta) :=
  some ((), σ)
set_option maxHeartbeats 4000000 in
set_option maxRecDepth 100000 in
theorem t_X4_addCommand_60 {l : Launch} {D : va_G} {Y : CYs} {E : Nat → Nat} {p : Program} {e : Env} {s : State} {m : MethodId} {args : Array Value} {below : List Frame} {meth : Method} {c : Code} (hF : Fr p s m args meth c RX4 cX4_addCommand 5 none D Y E LC) {o : Unit × Sta} : ∀ (σ : Sta) (H : Heap) (locs : List Loc) (ls : Array Slot), f_X4_addCommand_60 σ = some o → va_P D vwCl (wd Y E σ 0 LC) H → va_S (AF E LC.length s.heap.size) s.heap H locs → lv_has ls 5 [] → WV p l e rm_X4_addCommand s m args below meth c LC Y D E o H locs (F0 m 60 ls []) := by
  intro σ H locs ls h hP hS hl
  unfold f_X4_addCommand_60 at h
  obtain ⟨hC, hb, hml, hr, hlk, hD, hSW⟩ := id hF
  have hx := hC.1
  exact x_vret hF hP hS h dX4_addCommand_60

def f_X4_addCommand (a1 : Int64) (a3 : Int32) (a4 : Int32) (σ : Sta) : Option (Unit × Sta) :=
  if 16 ≤ gI σ 202 then
    f_X4_addCommand_60 σ
  else
    if gI σ 202 < 0 ∨ 16 ≤ ((gI σ 202).toNatClampNeg) then none else (
    lt (sJ σ 26 (vp_updL (gJ σ 26) ((gI σ 202).toNatClampNeg) a1)) (fun σ3 =>
    if gI σ3 202 < 0 ∨ 16 ≤ ((gI σ3 202).toNatClampNeg) then none else (
    lt (sA σ3 27 (upd (gA σ3 27) ((gI σ3 202).toNatClampNeg) a3)) (fun σ5 =>
    if gI σ5 202 < 0 ∨ 16 ≤ ((gI σ5 202).toNatClampNeg) then none else (
    lt (sA σ5 28 (upd (gA σ5 28) ((gI σ5 202).toNatClampNeg) a4)) (fun σ7 =>
    if gI σ7 202 < 0 ∨ 16 ≤ ((gI σ7 202).toNatClampNeg) then none else (
    lt (sA σ7 29 (upd (gA σ7 29) ((gI σ7 202).toNatClampNeg) 0)) (fun σ9 =>
    lt (sI σ9 202 ((gI σ9 202) + 1)) (fun σ10 =>
    f_X4_addCommand_60 σ10)))))))))
set_option maxHeartbeats 4000000 in
set_option maxRecDepth 100000 in
theorem c_X4_addCommand {l : Launch} {D : va_G} {Y : CYs} {E : Nat → Nat} {a1 : Int64} {a3 : Int32} {a4 : Int32} {σ : Sta} {o : Unit × Sta} (h : f_X4_addCommand a1 a3 a4 σ = some o) : MV l yX4_addCommand (Cond.code yX4_addCommand cX4_addCommand 5 none :: gW) rm_X4_addCommand LC Y D E [.ref (E 3), .long a1, .int a3, .int a4] σ o := by
  intro sz
  refine Met_of (Qc := fun sz => QV LC Y D E sz o) (by decide) (Nat.le_of_ble_eq_true rfl) (fun p e s m args below meth c hF hP ls hl => ?_) sz
  have hS : va_S (AF E LC.length s.heap.size) s.heap s.heap [] := va_S.rf
  have hl : lv_has ls 5 [(0, .ref (E 3)), (1, .long a1), (3, .int a3), (4, .int a4)] := hl
  show WV p l e rm_X4_addCommand s m args below meth c LC Y D E o s.heap [] (F0 m 0 ls [])
  unfold f_X4_addCommand at h
  obtain ⟨hC, hb, hml, hr, hlk, hD, hSW⟩ := id hF
  have hx := hC.1
  refine lv_aload_n hx hb dX4_addCommand_0 rfl (lv_at hl 0 rfl) ?_
  refine gf_X4_62 hC hb hP dX4_addCommand_1 ?_
  refine lv_bipush (v := 16) hx hb dX4_addCommand_4 (by decide) ?_
  refine lv_icmp_ge (tgt := 60) hx hb dX4_addCommand_6 (by decide) (fun c1 => ?_) (fun c1 => ?_)
  · have h := of_t h c1
    exact t_X4_addCommand_60  hF σ _ _ _ h hP hS (lv_sub hl [] rfl)
  · have h := of_f h c1
    refine lv_aload_n hx hb dX4_addCommand_9 rfl (lv_at hl 0 rfl) ?_
    refine gf_X4_38 hC hb hP dX4_addCommand_10 ?_
    refine lv_aload_n hx hb dX4_addCommand_13 rfl (lv_at hl 0 rfl) ?_
    refine gf_X4_62 hC hb hP dX4_addCommand_14 ?_
    refine lv_lload_n hx hb dX4_addCommand_17 rfl (lv_at hl 1 rfl) ?_
    obtain ⟨g2, h⟩ := of_gd h
    refine x_last lokC hC hb hP hD hS lc_26 g2 dX4_addCommand_18 (fun H locs σ3 eσ3 hP hS => ?_)
    have h := of_lt h eσ3
    refine lv_aload_n hx hb dX4_addCommand_19 rfl (lv_at hl 0 rfl) ?_
    refine gf_X4_41 hC hb hP dX4_addCommand_20 ?_
    refine lv_aload_n hx hb dX4_addCommand_23 rfl (lv_at hl 0 rfl) ?_
    refine gf_X4_62 hC hb hP dX4_addCommand_24 ?_
    refine lv_iload_n hx hb dX4_addCommand_27 rfl (lv_at hl 2 rfl) ?_
    obtain ⟨g4, h⟩ := of_gd h
    refine x_iast lokC hC hb hP hD hS lc_27 g4 dX4_addCommand_28 (fun H locs σ5 eσ5 hP hS => ?_)
    have h := of_lt h eσ5
    refine lv_aload_n hx hb dX4_addCommand_29 rfl (lv_at hl 0 rfl) ?_
    refine gf_X4_44 hC hb hP dX4_addCommand_30 ?_
    refine lv_aload_n hx hb dX4_addCommand_33 rfl (lv_at hl 0 rfl) ?_
    refine gf_X4_62 hC hb hP dX4_addCommand_34 ?_
    refine lv_iload hx hb dX4_addCommand_37 (lv_at hl 3 rfl) ?_
    obtain ⟨g6, h⟩ := of_gd h
    refine x_iast lokC hC hb hP hD hS lc_28 g6 dX4_addCommand_39 (fun H locs σ7 eσ7 hP hS => ?_)
    have h := of_lt h eσ7
    refine lv_aload_n hx hb dX4_addCommand_40 rfl (lv_at hl 0 rfl) ?_
    refine gf_X4_47 hC hb hP dX4_addCommand_41 ?_
    refine lv_aload_n hx hb dX4_addCommand_44 rfl (lv_at hl 0 rfl) ?_
    refine gf_X4_62 hC hb hP dX4_addCommand_45 ?_
    refine lv_iconst (v := 0) hx hb dX4_addCommand_48 (by decide) ?_
    obtain ⟨g8, h⟩ := of_gd h
    refine x_iast lokC hC hb hP hD hS lc_29 g8 dX4_addCommand_49 (fun H locs σ9 eσ9 hP hS => ?_)
    have h := of_lt h eσ9
    refine lv_aload_n hx hb dX4_addCommand_50 rfl (lv_at hl 0 rfl) ?_
    refine lv_dup hx hb dX4_addCommand_51 rfl ?_
    refine gf_X4_62 hC hb hP dX4_addCommand_52 ?_
    refine lv_iconst (v := 1) hx hb dX4_addCommand_55 (by decide) ?_
    refine lv_iadd hx hb dX4_addCommand_56 ?_
    refine pf_X4_62 hC hb hP hD hS dX4_addCommand_57 (fun H locs σ10 eσ10 hP hS => ?_)
    have h := of_lt h eσ10
    exact t_X4_addCommand_60  hF σ10 _ _ _ h hP hS (lv_sub hl [] rfl)

abbrev rm_X4_latestBranches : Room := { frames := 0, cells := 0, slots := 0, locals := 0 }
def f_X4_latestBranches_22 (s0 : Int32) (σ : Sta) : Option (Int32 × Sta) :=
  some (s0, σ)
set_option maxHeartbeats 4000000 in
set_option maxRecDepth 100000 in
theorem t_X4_latestBranches_22 {l : Launch} {D : va_G} {Y : CYs} {E : Nat → Nat} {p : Program} {e : Env} {s : State} {m : MethodId} {args : Array Value} {below : List Frame} {meth : Method} {c : Code} (hF : Fr p s m args meth c RX4 cX4_latestBranches 1 (some .int) D Y E LC) {o : Int32 × Sta} : ∀ (s0 : Int32) (σ : Sta) (H : Heap) (locs : List Loc) (ls : Array Slot), f_X4_latestBranches_22 s0 σ = some o → va_P D vwCl (wd Y E σ 0 LC) H → va_S (AF E LC.length s.heap.size) s.heap H locs → lv_has ls 1 [] → WI p l e rm_X4_latestBranches s m args below meth c LC Y D E o H locs (F0 m 22 ls [.int s0]) := by
  intro s0 σ H locs ls h hP hS hl
  unfold f_X4_latestBranches_22 at h
  obtain ⟨hC, hb, hml, hr, hlk, hD, hSW⟩ := id hF
  have hx := hC.1
  exact x_iret hF hP hS h dX4_latestBranches_22

def f_X4_latestBranches (σ : Sta) : Option (Int32 × Sta) :=
  if gI σ 202 ≤ 0 then
    f_X4_latestBranches_22 0 σ
  else
    if (gI σ 202) - 1 < 0 ∨ 16 ≤ (((gI σ 202) - 1).toNatClampNeg) then none else (
    f_X4_latestBranches_22 (gA σ 29 (((gI σ 202) - 1).toNatClampNeg)) σ)
set_option maxHeartbeats 4000000 in
set_option maxRecDepth 100000 in
theorem c_X4_latestBranches {l : Launch} {D : va_G} {Y : CYs} {E : Nat → Nat} {σ : Sta} {o : Int32 × Sta} (h : f_X4_latestBranches σ = some o) : MI l yX4_latestBranches (Cond.code yX4_latestBranches cX4_latestBranches 1 (some .int) :: gW) rm_X4_latestBranches LC Y D E [.ref (E 3)] σ o := by
  intro sz
  refine Met_of (Qc := fun sz => QI LC Y D E sz o) (by decide) (Nat.le_of_ble_eq_true rfl) (fun p e s m args below meth c hF hP ls hl => ?_) sz
  have hS : va_S (AF E LC.length s.heap.size) s.heap s.heap [] := va_S.rf
  have hl : lv_has ls 1 [(0, .ref (E 3))] := hl
  show WI p l e rm_X4_latestBranches s m args below meth c LC Y D E o s.heap [] (F0 m 0 ls [])
  unfold f_X4_latestBranches at h
  obtain ⟨hC, hb, hml, hr, hlk, hD, hSW⟩ := id hF
  have hx := hC.1
  refine lv_aload_n hx hb dX4_latestBranches_0 rfl (lv_at hl 0 rfl) ?_
  refine gf_X4_62 hC hb hP dX4_latestBranches_1 ?_
  refine lv_if_le (tgt := 21) hx hb dX4_latestBranches_4 (by decide) (fun c1 => ?_) (fun c1 => ?_)
  · have h := of_t h c1
    refine lv_iconst (v := 0) hx hb dX4_latestBranches_21 (by decide) ?_
    exact t_X4_latestBranches_22  hF 0 σ _ _ _ h hP hS (lv_sub hl [] rfl)
  · have h := of_f h c1
    refine lv_aload_n hx hb dX4_latestBranches_7 rfl (lv_at hl 0 rfl) ?_
    refine gf_X4_47 hC hb hP dX4_latestBranches_8 ?_
    refine lv_aload_n hx hb dX4_latestBranches_11 rfl (lv_at hl 0 rfl) ?_
    refine gf_X4_62 hC hb hP dX4_latestBranches_12 ?_
    refine lv_iconst (v := 1) hx hb dX4_latestBranches_15 (by decide) ?_
    refine lv_isub hx hb dX4_latestBranches_16 ?_
    obtain ⟨g2, h⟩ := of_gd h
    refine x_iald hC hb hP lc_29 g2 dX4_latestBranches_17 ?_
    refine lv_goto (tgt := 22) hx hb dX4_latestBranches_18 (by decide) ?_
    exact t_X4_latestBranches_22  hF (gA σ 29 (((gI σ 202) - 1).toNatClampNeg)) σ _ _ _ h hP hS (lv_sub hl [] rfl)

abbrev rm_X4_addBranch : Room := { frames := 1, cells := 0, slots := 0, locals := 20 }
def f_X4_addBranch_78 (σ : Sta) : Option (Unit × Sta) :=
  some ((), σ)
set_option maxHeartbeats 4000000 in
set_option maxRecDepth 100000 in
theorem t_X4_addBranch_78 {l : Launch} {D : va_G} {Y : CYs} {E : Nat → Nat} {p : Program} {e : Env} {s : State} {m : MethodId} {args : Array Value} {below : List Frame} {meth : Method} {c : Code} (hF : Fr p s m args meth c RX4 cX4_addBranch 5 none D Y E LC) {o : Unit × Sta} : ∀ (σ : Sta) (H : Heap) (locs : List Loc) (ls : Array Slot), f_X4_addBranch_78 σ = some o → va_P D vwCl (wd Y E σ 0 LC) H → va_S (AF E LC.length s.heap.size) s.heap H locs → lv_has ls 5 [] → WV p l e rm_X4_addBranch s m args below meth c LC Y D E o H locs (F0 m 78 ls []) := by
  intro σ H locs ls h hP hS hl
  unfold f_X4_addBranch_78 at h
  obtain ⟨hC, hb, hml, hr, hlk, hD, hSW⟩ := id hF
  have hx := hC.1
  exact x_vret hF hP hS h dX4_addBranch_78

def f_X4_addBranch_38 : Nat → Int32 → Int32 → Int32 → Sta → Option (Unit × Sta)
  | 0, _, _, _, _ => none
  | n + 1, v2, v3, v4, σ => if 6 ≤ v4 then
      if (gI σ 202) - 1 < 0 ∨ 16 ≤ (((gI σ 202) - 1).toNatClampNeg) then none else (
      lt (sA σ 29 (upd (gA σ 29) (((gI σ 202) - 1).toNatClampNeg) (v2 + 1))) (fun σ3 =>
      f_X4_addBranch_78 σ3))
    else
      if (v3 * 6) + v4 < 0 ∨ 384 ≤ (((v3 * 6) + v4).toNatClampNeg) then none else (
      lt (sA σ 31 (upd (gA σ 31) (((v3 * 6) + v4).toNatClampNeg) (-1))) (fun σ5 =>
      lt (v4 + 1) (fun x6 =>
      f_X4_addBranch_38 n v2 v3 x6 σ5)))
set_option maxHeartbeats 4000000 in
set_option maxRecDepth 100000 in
theorem t_X4_addBranch_38 {l : Launch} {D : va_G} {Y : CYs} {E : Nat → Nat} {p : Program} {e : Env} {s : State} {m : MethodId} {args : Array Value} {below : List Frame} {meth : Method} {c : Code} (hF : Fr p s m args meth c RX4 cX4_addBranch 5 none D Y E LC) {o : Unit × Sta} : ∀ (n : Nat) (v2 : Int32) (v3 : Int32) (v4 : Int32) (σ : Sta) (H : Heap) (locs : List Loc) (ls : Array Slot), f_X4_addBranch_38 n v2 v3 v4 σ = some o → va_P D vwCl (wd Y E σ 0 LC) H → va_S (AF E LC.length s.heap.size) s.heap H locs → lv_has ls 5 [(0, .ref (E 3)), (2, .int v2), (3, .int v3), (4, .int v4)] → WV p l e rm_X4_addBranch s m args below meth c LC Y D E o H locs (F0 m 38 ls []) := by
  intro n
  induction n with
  | zero =>
    intro v2 v3 v4 σ H locs ls h hP hS hl
    exact nomatch (show (none : Option (Unit × Sta)) = some o from h)
  | succ n ih =>
    intro v2 v3 v4 σ H locs ls h hP hS hl
    rw [f_X4_addBranch_38] at h
    obtain ⟨hC, hb, hml, hr, hlk, hD, hSW⟩ := id hF
    have hx := hC.1
    refine lv_iload hx hb dX4_addBranch_38 (lv_at hl 3 rfl) ?_
    refine lv_bipush (v := 6) hx hb dX4_addBranch_40 (by decide) ?_
    refine lv_icmp_ge (tgt := 64) hx hb dX4_addBranch_42 (by decide) (fun c1 => ?_) (fun c1 => ?_)
    · have h := of_t h c1
      refine lv_aload_n hx hb dX4_addBranch_64 rfl (lv_at hl 0 rfl) ?_
      refine gf_X4_47 hC hb hP dX4_addBranch_65 ?_
      refine lv_aload_n hx hb dX4_addBranch_68 rfl (lv_at hl 0 rfl) ?_
      refine gf_X4_62 hC hb hP dX4_addBranch_69 ?_
      refine lv_iconst (v := 1) hx hb dX4_addBranch_72 (by decide) ?_
      refine lv_isub hx hb dX4_addBranch_73 ?_
      refine lv_iload_n hx hb dX4_addBranch_74 rfl (lv_at hl 1 rfl) ?_
      refine lv_iconst (v := 1) hx hb dX4_addBranch_75 (by decide) ?_
      refine lv_iadd hx hb dX4_addBranch_76 ?_
      obtain ⟨g2, h⟩ := of_gd h
      refine x_iast lokC hC hb hP hD hS lc_29 g2 dX4_addBranch_77 (fun H locs σ3 eσ3 hP hS => ?_)
      have h := of_lt h eσ3
      exact t_X4_addBranch_78  hF σ3 _ _ _ h hP hS (lv_sub hl [] rfl)
    · have h := of_f h c1
      refine lv_aload_n hx hb dX4_addBranch_45 rfl (lv_at hl 0 rfl) ?_
      refine gf_X4_53 hC hb hP dX4_addBranch_46 ?_
      refine lv_iload_n hx hb dX4_addBranch_49 rfl (lv_at hl 2 rfl) ?_
      refine lv_bipush (v := 6) hx hb dX4_addBranch_50 (by decide) ?_
      refine lv_imul hx hb dX4_addBranch_52 ?_
      refine lv_iload hx hb dX4_addBranch_53 (lv_at hl 3 rfl) ?_
      refine lv_iadd hx hb dX4_addBranch_55 ?_
      refine lv_iconst (v := -1) hx hb dX4_addBranch_56 (by decide) ?_
      obtain ⟨g4, h⟩ := of_gd h
      refine x_iast lokC hC hb hP hD hS lc_31 g4 dX4_addBranch_57 (fun H locs σ5 eσ5 hP hS => ?_)
      have h := of_lt h eσ5
      obtain ⟨x6, ex6⟩ : ∃ y : Int32, y = v4 + 1 := ⟨_, rfl⟩
      have h := of_lt h ex6
      refine lv_iinc (v := x6) (lv' := [(4, .int x6), (0, .ref (E 3)), (2, .int v2), (3, .int v3)]) hx hb dX4_addBranch_58 hl (k := 3) rfl (by rw [ex6]; rfl) (by decide) rfl (fun ls hl => ?_)
      refine lv_goto (tgt := 38) hx hb dX4_addBranch_61 (by decide) ?_
      exact ih v2 v3 x6 σ5 _ _ _ h hP hS (lv_sub hl [1, 2, 3, 0] rfl)

def f_X4_addBranch (a1 : Int32) (σ : Sta) : Option (Unit × Sta) :=
  bnd (f_X4_latestBranches σ) (fun r1 σ2 =>
  if gI σ2 202 ≤ 0 then
    f_X4_addBranch_78 σ2
  else
    if 4 ≤ r1 then
      f_X4_addBranch_78 σ2
    else
      lt ((((gI σ2 202) - 1) * 4) + r1) (fun x6 =>
      if x6 < 0 ∨ 64 ≤ (x6.toNatClampNeg) then none else (
      lt (sA σ2 30 (upd (gA σ2 30) (x6.toNatClampNeg) a1)) (fun σ8 =>
      f_X4_addBranch_38 FU r1 x6 0 σ8))))
set_option maxHeartbeats 4000000 in
set_option maxRecDepth 100000 in
theorem c_X4_addBranch {l : Launch} {D : va_G} {Y : CYs} {E : Nat → Nat} {a1 : Int32} {σ : Sta} {o : Unit × Sta} (h : f_X4_addBranch a1 σ = some o) : MV l yX4_addBranch (Cond.code yX4_addBranch cX4_addBranch 5 none :: gW) rm_X4_addBranch LC Y D E [.ref (E 3), .int a1] σ o := by
  intro sz
  refine Met_of (Qc := fun sz => QV LC Y D E sz o) (by decide) (Nat.le_of_ble_eq_true rfl) (fun p e s m args below meth c hF hP ls hl => ?_) sz
  have hS : va_S (AF E LC.length s.heap.size) s.heap s.heap [] := va_S.rf
  have hl : lv_has ls 5 [(0, .ref (E 3)), (1, .int a1)] := hl
  show WV p l e rm_X4_addBranch s m args below meth c LC Y D E o s.heap [] (F0 m 0 ls [])
  unfold f_X4_addBranch at h
  obtain ⟨hC, hb, hml, hr, hlk, hD, hSW⟩ := id hF
  have hx := hC.1
  refine lv_aload_n hx hb dX4_addBranch_0 rfl (lv_at hl 0 rfl) ?_
  obtain ⟨r1, σ2, g3, h⟩ := of_bnd h
  refine x_VI (As := []) (rest := []) hF hl hP hS (c_X4_latestBranches g3) (cw_X4_65 hC rfl rfl ⟨Nat.le_of_ble_eq_true rfl, Nat.le_of_ble_eq_true rfl⟩) lc_3 rfl rfl rfl (Nat.le_of_ble_eq_true rfl) dX4_addBranch_1 ⟨Nat.zero_le _, Nat.zero_le _⟩ (fun H locs hP hS => ?_)
  refine lv_istore_n (lv' := [(2, .int r1), (0, .ref (E 3)), (1, .int a1)]) hx hb dX4_addBranch_4 rfl hl (by decide) rfl (fun ls hl => ?_)
  refine lv_aload_n hx hb dX4_addBranch_5 rfl (lv_at hl 1 rfl) ?_
  refine gf_X4_62 hC hb hP dX4_addBranch_6 ?_
  refine lv_if_le (tgt := 78) hx hb dX4_addBranch_9 (by decide) (fun c4 => ?_) (fun c4 => ?_)
  · have h := of_t h c4
    exact t_X4_addBranch_78  hF σ2 _ _ _ h hP hS (lv_sub hl [] rfl)
  · have h := of_f h c4
    refine lv_iload_n hx hb dX4_addBranch_12 rfl (lv_at hl 0 rfl) ?_
    refine lv_iconst (v := 4) hx hb dX4_addBranch_13 (by decide) ?_
    refine lv_icmp_ge (tgt := 78) hx hb dX4_addBranch_14 (by decide) (fun c5 => ?_) (fun c5 => ?_)
    · have h := of_t h c5
      exact t_X4_addBranch_78  hF σ2 _ _ _ h hP hS (lv_sub hl [] rfl)
    · have h := of_f h c5
      refine lv_aload_n hx hb dX4_addBranch_17 rfl (lv_at hl 1 rfl) ?_
      refine gf_X4_62 hC hb hP dX4_addBranch_18 ?_
      refine lv_iconst (v := 1) hx hb dX4_addBranch_21 (by decide) ?_
      refine lv_isub hx hb dX4_addBranch_22 ?_
      refine lv_iconst (v := 4) hx hb dX4_addBranch_23 (by decide) ?_
      refine lv_imul hx hb dX4_addBranch_24 ?_
      refine lv_iload_n hx hb dX4_addBranch_25 rfl (lv_at hl 0 rfl) ?_
      refine lv_iadd hx hb dX4_addBranch_26 ?_
      refine lv_topi (fun x6 ex6 => ?_)
      have h := of_lt h ex6
      refine lv_istore_n (lv' := [(3, .int x6), (2, .int r1), (0, .ref (E 3)), (1, .int a1)]) hx hb dX4_addBranch_27 rfl hl (by decide) rfl (fun ls hl => ?_)
      refine lv_aload_n hx hb dX4_addBranch_28 rfl (lv_at hl 2 rfl) ?_
      refine gf_X4_50 hC hb hP dX4_addBranch_29 ?_
      refine lv_iload_n hx hb dX4_addBranch_32 rfl (lv_at hl 0 rfl) ?_
      refine lv_iload_n hx hb dX4_addBranch_33 rfl (lv_at hl 3 rfl) ?_
      obtain ⟨g7, h⟩ := of_gd h
      refine x_iast lokC hC hb hP hD hS lc_30 g7 dX4_addBranch_34 (fun H locs σ8 eσ8 hP hS => ?_)
      have h := of_lt h eσ8
      refine lv_iconst (v := 0) hx hb dX4_addBranch_35 (by decide) ?_
      refine lv_istore (lv' := [(4, .int 0), (3, .int x6), (2, .int r1), (0, .ref (E 3)), (1, .int a1)]) hx hb dX4_addBranch_36 hl (by decide) rfl (fun ls hl => ?_)
      exact t_X4_addBranch_38  hF FU r1 x6 0 σ8 _ _ _ h hP hS (lv_sub hl [3, 2, 1, 0] rfl)

abbrev rm_X4_latestSetting : Room := { frames := 1, cells := 0, slots := 0, locals := 20 }
def f_X4_latestSetting_19 (σ : Sta) : Option (Int32 × Sta) :=
  some (-1, σ)
set_option maxHeartbeats 4000000 in
set_option maxRecDepth 100000 in
theorem t_X4_latestSetting_19 {l : Launch} {D : va_G} {Y : CYs} {E : Nat → Nat} {p : Program} {e : Env} {s : State} {m : MethodId} {args : Array Value} {below : List Frame} {meth : Method} {c : Code} (hF : Fr p s m args meth c RX4 cX4_latestSetting 4 (some .int) D Y E LC) {o : Int32 × Sta} : ∀ (σ : Sta) (H : Heap) (locs : List Loc) (ls : Array Slot), f_X4_latestSetting_19 σ = some o → va_P D vwCl (wd Y E σ 0 LC) H → va_S (AF E LC.length s.heap.size) s.heap H locs → lv_has ls 4 [] → WI p l e rm_X4_latestSetting s m args below meth c LC Y D E o H locs (F0 m 19 ls []) := by
  intro σ H locs ls h hP hS hl
  unfold f_X4_latestSetting_19 at h
  obtain ⟨hC, hb, hml, hr, hlk, hD, hSW⟩ := id hF
  have hx := hC.1
  refine lv_iconst (v := -1) hx hb dX4_latestSetting_19 (by decide) ?_
  exact x_iret hF hP hS h dX4_latestSetting_20

def f_X4_latestSetting (a1 : Int32) (σ : Sta) : Option (Int32 × Sta) :=
  bnd (f_X4_latestBranches σ) (fun r1 σ2 =>
  if r1 = 0 then
    f_X4_latestSetting_19 σ2
  else
    if a1 < 0 then
      f_X4_latestSetting_19 σ2
    else
      if a1 < 6 then
        lt (((((gI σ2 202) - 1) * 4) + r1) - 1) (fun x7 =>
        some ((x7 * 6) + a1, σ2))
      else
        f_X4_latestSetting_19 σ2)
set_option maxHeartbeats 4000000 in
set_option maxRecDepth 100000 in
theorem c_X4_latestSetting {l : Launch} {D : va_G} {Y : CYs} {E : Nat → Nat} {a1 : Int32} {σ : Sta} {o : Int32 × Sta} (h : f_X4_latestSetting a1 σ = some o) : MI l yX4_latestSetting (Cond.code yX4_latestSetting cX4_latestSetting 4 (some .int) :: gW) rm_X4_latestSetting LC Y D E [.ref (E 3), .int a1] σ o := by
  intro sz
  refine Met_of (Qc := fun sz => QI LC Y D E sz o) (by decide) (Nat.le_of_ble_eq_true rfl) (fun p e s m args below meth c hF hP ls hl => ?_) sz
  have hS : va_S (AF E LC.length s.heap.size) s.heap s.heap [] := va_S.rf
  have hl : lv_has ls 4 [(0, .ref (E 3)), (1, .int a1)] := hl
  show WI p l e rm_X4_latestSetting s m args below meth c LC Y D E o s.heap [] (F0 m 0 ls [])
  unfold f_X4_latestSetting at h
  obtain ⟨hC, hb, hml, hr, hlk, hD, hSW⟩ := id hF
  have hx := hC.1
  refine lv_aload_n hx hb dX4_latestSetting_0 rfl (lv_at hl 0 rfl) ?_
  obtain ⟨r1, σ2, g3, h⟩ := of_bnd h
  refine x_VI (As := []) (rest := []) hF hl hP hS (c_X4_latestBranches g3) (cw_X4_65 hC rfl rfl ⟨Nat.le_of_ble_eq_true rfl, Nat.le_of_ble_eq_true rfl⟩) lc_3 rfl rfl rfl (Nat.le_of_ble_eq_true rfl) dX4_latestSetting_1 ⟨Nat.zero_le _, Nat.zero_le _⟩ (fun H locs hP hS => ?_)
  refine lv_istore_n (lv' := [(2, .int r1), (0, .ref (E 3)), (1, .int a1)]) hx hb dX4_latestSetting_4 rfl hl (by decide) rfl (fun ls hl => ?_)
  refine lv_iload_n hx hb dX4_latestSetting_5 rfl (lv_at hl 0 rfl) ?_
  refine lv_if_eq (tgt := 19) hx hb dX4_latestSetting_6 (by decide) (fun c4 => ?_) (fun c4 => ?_)
  · have h := of_t h c4
    exact t_X4_latestSetting_19  hF σ2 _ _ _ h hP hS (lv_sub hl [] rfl)
  · have h := of_f h c4
    refine lv_iload_n hx hb dX4_latestSetting_9 rfl (lv_at hl 2 rfl) ?_
    refine lv_if_lt (tgt := 19) hx hb dX4_latestSetting_10 (by decide) (fun c5 => ?_) (fun c5 => ?_)
    · have h := of_t h c5
      exact t_X4_latestSetting_19  hF σ2 _ _ _ h hP hS (lv_sub hl [] rfl)
    · have h := of_f h c5
      refine lv_iload_n hx hb dX4_latestSetting_13 rfl (lv_at hl 2 rfl) ?_
      refine lv_bipush (v := 6) hx hb dX4_latestSetting_14 (by decide) ?_
      refine lv_icmp_lt (tgt := 21) hx hb dX4_latestSetting_16 (by decide) (fun c6 => ?_) (fun c6 => ?_)
      · have h := of_t h c6
        refine lv_aload_n hx hb dX4_latestSetting_21 rfl (lv_at hl 1 rfl) ?_
        refine gf_X4_62 hC hb hP dX4_latestSetting_22 ?_
        refine lv_iconst (v := 1) hx hb dX4_latestSetting_25 (by decide) ?_
        refine lv_isub hx hb dX4_latestSetting_26 ?_
        refine lv_iconst (v := 4) hx hb dX4_latestSetting_27 (by decide) ?_
        refine lv_imul hx hb dX4_latestSetting_28 ?_
        refine lv_iload_n hx hb dX4_latestSetting_29 rfl (lv_at hl 0 rfl) ?_
        refine lv_iadd hx hb dX4_latestSetting_30 ?_
        refine lv_iconst (v := 1) hx hb dX4_latestSetting_31 (by decide) ?_
        refine lv_isub hx hb dX4_latestSetting_32 ?_
        refine lv_topi (fun x7 ex7 => ?_)
        have h := of_lt h ex7
        refine lv_istore_n (lv' := [(3, .int x7), (2, .int r1), (0, .ref (E 3)), (1, .int a1)]) hx hb dX4_latestSetting_33 rfl hl (by decide) rfl (fun ls hl => ?_)
        refine lv_iload_n hx hb dX4_latestSetting_34 rfl (lv_at hl 0 rfl) ?_
        refine lv_bipush (v := 6) hx hb dX4_latestSetting_35 (by decide) ?_
        refine lv_imul hx hb dX4_latestSetting_37 ?_
        refine lv_iload_n hx hb dX4_latestSetting_38 rfl (lv_at hl 3 rfl) ?_
        refine lv_iadd hx hb dX4_latestSetting_39 ?_
        exact x_iret hF hP hS h dX4_latestSetting_40
      · have h := of_f h c6
        exact t_X4_latestSetting_19  hF σ2 _ _ _ h hP hS (lv_sub hl [] rfl)

abbrev rm_X4_addSetting : Room := { frames := 2, cells := 0, slots := 0, locals := 43 }
def f_X4_addSetting_17 (σ : Sta) : Option (Unit × Sta) :=
  some ((), σ)
set_option maxHeartbeats 4000000 in
set_option maxRecDepth 100000 in
theorem t_X4_addSetting_17 {l : Launch} {D : va_G} {Y : CYs} {E : Nat → Nat} {p : Program} {e : Env} {s : State} {m : MethodId} {args : Array Value} {below : List Frame} {meth : Method} {c : Code} (hF : Fr p s m args meth c RX4 cX4_addSetting 4 none D Y E LC) {o : Unit × Sta} : ∀ (σ : Sta) (H : Heap) (locs : List Loc) (ls : Array Slot), f_X4_addSetting_17 σ = some o → va_P D vwCl (wd Y E σ 0 LC) H → va_S (AF E LC.length s.heap.size) s.heap H locs → lv_has ls 4 [] → WV p l e rm_X4_addSetting s m args below meth c LC Y D E o H locs (F0 m 17 ls []) := by
  intro σ H locs ls h hP hS hl
  unfold f_X4_addSetting_17 at h
  obtain ⟨hC, hb, hml, hr, hlk, hD, hSW⟩ := id hF
  have hx := hC.1
  exact x_vret hF hP hS h dX4_addSetting_17

def f_X4_addSetting (a1 : Int32) (a2 : Int32) (σ : Sta) : Option (Unit × Sta) :=
  bnd (f_X4_latestSetting a1 σ) (fun r1 σ2 =>
  if r1 < 0 then
    f_X4_addSetting_17 σ2
  else
    if r1 < 0 ∨ 384 ≤ (r1.toNatClampNeg) then none else (
    lt (sA σ2 31 (upd (gA σ2 31) (r1.toNatClampNeg) a2)) (fun σ6 =>
    f_X4_addSetting_17 σ6)))
set_option maxHeartbeats 4000000 in
set_option maxRecDepth 100000 in
theorem c_X4_addSetting {l : Launch} {D : va_G} {Y : CYs} {E : Nat → Nat} {a1 : Int32} {a2 : Int32} {σ : Sta} {o : Unit × Sta} (h : f_X4_addSetting a1 a2 σ = some o) : MV l yX4_addSetting (Cond.code yX4_addSetting cX4_addSetting 4 none :: gW) rm_X4_addSetting LC Y D E [.ref (E 3), .int a1, .int a2] σ o := by
  intro sz
  refine Met_of (Qc := fun sz => QV LC Y D E sz o) (by decide) (Nat.le_of_ble_eq_true rfl) (fun p e s m args below meth c hF hP ls hl => ?_) sz
  have hS : va_S (AF E LC.length s.heap.size) s.heap s.heap [] := va_S.rf
  have hl : lv_has ls 4 [(0, .ref (E 3)), (1, .int a1), (2, .int a2)] := hl
  show WV p l e rm_X4_addSetting s m args below meth c LC Y D E o s.heap [] (F0 m 0 ls [])
  unfold f_X4_addSetting at h
  obtain ⟨hC, hb, hml, hr, hlk, hD, hSW⟩ := id hF
  have hx := hC.1
  refine lv_aload_n hx hb dX4_addSetting_0 rfl (lv_at hl 0 rfl) ?_
  refine lv_iload_n hx hb dX4_addSetting_1 rfl (lv_at hl 1 rfl) ?_
  obtain ⟨r1, σ2, g3, h⟩ := of_bnd h
  refine x_VI (As := [.int a1]) (rest := []) hF hl hP hS (c_X4_latestSetting g3) (cw_X4_69 hC rfl rfl ⟨Nat.le_of_ble_eq_true rfl, Nat.le_of_ble_eq_true rfl⟩) lc_3 rfl rfl rfl (Nat.le_of_ble_eq_true rfl) dX4_addSetting_2 ⟨Nat.zero_le _, Nat.zero_le _⟩ (fun H locs hP hS => ?_)
  refine lv_istore_n (lv' := [(3, .int r1), (0, .ref (E 3)), (1, .int a1), (2, .int a2)]) hx hb dX4_addSetting_5 rfl hl (by decide) rfl (fun ls hl => ?_)
  refine lv_iload_n hx hb dX4_addSetting_6 rfl (lv_at hl 0 rfl) ?_
  refine lv_if_lt (tgt := 17) hx hb dX4_addSetting_7 (by decide) (fun c4 => ?_) (fun c4 => ?_)
  · have h := of_t h c4
    exact t_X4_addSetting_17  hF σ2 _ _ _ h hP hS (lv_sub hl [] rfl)
  · have h := of_f h c4
    refine lv_aload_n hx hb dX4_addSetting_10 rfl (lv_at hl 1 rfl) ?_
    refine gf_X4_53 hC hb hP dX4_addSetting_11 ?_
    refine lv_iload_n hx hb dX4_addSetting_14 rfl (lv_at hl 0 rfl) ?_
    refine lv_iload_n hx hb dX4_addSetting_15 rfl (lv_at hl 3 rfl) ?_
    obtain ⟨g5, h⟩ := of_gd h
    refine x_iast lokC hC hb hP hD hS lc_31 g5 dX4_addSetting_16 (fun H locs σ6 eσ6 hP hS => ?_)
    have h := of_lt h eσ6
    exact t_X4_addSetting_17  hF σ6 _ _ _ h hP hS (lv_sub hl [] rfl)

abbrev rm_X4_isSetInLatest : Room := { frames := 2, cells := 0, slots := 0, locals := 43 }
def f_X4_isSetInLatest_24 (s0 : Int32) (σ : Sta) : Option (Int32 × Sta) :=
  if ¬ (s0 = 0 ∨ s0 = 1) then none else (
  some (s0, σ))
set_option maxHeartbeats 4000000 in
set_option maxRecDepth 100000 in
theorem t_X4_isSetInLatest_24 {l : Launch} {D : va_G} {Y : CYs} {E : Nat → Nat} {p : Program} {e : Env} {s : State} {m : MethodId} {args : Array Value} {below : List Frame} {meth : Method} {c : Code} (hF : Fr p s m args meth c RX4 cX4_isSetInLatest 3 (some .boolean) D Y E LC) {o : Int32 × Sta} : ∀ (s0 : Int32) (σ : Sta) (H : Heap) (locs : List Loc) (ls : Array Slot), f_X4_isSetInLatest_24 s0 σ = some o → va_P D vwCl (wd Y E σ 0 LC) H → va_S (AF E LC.length s.heap.size) s.heap H locs → lv_has ls 3 [] → WI p l e rm_X4_isSetInLatest s m args below meth c LC Y D E o H locs (F0 m 24 ls [.int s0]) := by
  intro s0 σ H locs ls h hP hS hl
  unfold f_X4_isSetInLatest_24 at h
  obtain ⟨hC, hb, hml, hr, hlk, hD, hSW⟩ := id hF
  have hx := hC.1
  obtain ⟨g1, h⟩ := of_gd h
  exact x_zret hF hP hS (zb g1) h dX4_isSetInLatest_24

def f_X4_isSetInLatest_23 (σ : Sta) : Option (Int32 × Sta) :=
  f_X4_isSetInLatest_24 0 σ
set_option maxHeartbeats 4000000 in
set_option maxRecDepth 100000 in
theorem t_X4_isSetInLatest_23 {l : Launch} {D : va_G} {Y : CYs} {E : Nat → Nat} {p : Program} {e : Env} {s : State} {m : MethodId} {args : Array Value} {below : List Frame} {meth : Method} {c : Code} (hF : Fr p s m args meth c RX4 cX4_isSetInLatest 3 (some .boolean) D Y E LC) {o : Int32 × Sta} : ∀ (σ : Sta) (H : Heap) (locs : List Loc) (ls : Array Slot), f_X4_isSetInLatest_23 σ = some o → va_P D vwCl (wd Y E σ 0 LC) H → va_S (AF E LC.length s.heap.size) s.heap H locs → lv_has ls 3 [] → WI p l e rm_X4_isSetInLatest s m args below meth c LC Y D E o H locs (F0 m 23 ls []) := by
  intro σ H locs ls h hP hS hl
  unfold f_X4_isSetInLatest_23 at h
  obtain ⟨hC, hb, hml, hr, hlk, hD, hSW⟩ := id hF
  have hx := hC.1
  refine lv_iconst (v := 0) hx hb dX4_isSetInLatest_23 (by decide) ?_
  exact t_X4_isSetInLatest_24  hF 0 σ _ _ _ h hP hS (lv_sub hl [] rfl)

def f_X4_isSetInLatest (a1 : Int32) (σ : Sta) : Option (Int32 × Sta) :=
  bnd (f_X4_latestSetting a1 σ) (fun r1 σ2 =>
  if r1 < 0 then
    f_X4_isSetInLatest_23 σ2
  else
    if r1 < 0 ∨ 384 ≤ (r1.toNatClampNeg) then none else (
    if gA σ2 31 (r1.toNatClampNeg) < 0 then
      f_X4_isSetInLatest_23 σ2
    else
      f_X4_isSetInLatest_24 1 σ2))
set_option maxHeartbeats 4000000 in
set_option maxRecDepth 100000 in
theorem c_X4_isSetInLatest {l : Launch} {D : va_G} {Y : CYs} {E : Nat → Nat} {a1 : Int32} {σ : Sta} {o : Int32 × Sta} (h : f_X4_isSetInLatest a1 σ = some o) : MI l yX4_isSetInLatest (Cond.code yX4_isSetInLatest cX4_isSetInLatest 3 (some .boolean) :: gW) rm_X4_isSetInLatest LC Y D E [.ref (E 3), .int a1] σ o := by
  intro sz
  refine Met_of (Qc := fun sz => QI LC Y D E sz o) (by decide) (Nat.le_of_ble_eq_true rfl) (fun p e s m args below meth c hF hP ls hl => ?_) sz
  have hS : va_S (AF E LC.length s.heap.size) s.heap s.heap [] := va_S.rf
  have hl : lv_has ls 3 [(0, .ref (E 3)), (1, .int a1)] := hl
  show WI p l e rm_X4_isSetInLatest s m args below meth c LC Y D E o s.heap [] (F0 m 0 ls [])
  unfold f_X4_isSetInLatest at h
  obtain ⟨hC, hb, hml, hr, hlk, hD, hSW⟩ := id hF
  have hx := hC.1
  refine lv_aload_n hx hb dX4_isSetInLatest_0 rfl (lv_at hl 0 rfl) ?_
  refine lv_iload_n hx hb dX4_isSetInLatest_1 rfl (lv_at hl 1 rfl) ?_
  obtain ⟨r1, σ2, g3, h⟩ := of_bnd h
  refine x_VI (As := [.int a1]) (rest := []) hF hl hP hS (c_X4_latestSetting g3) (cw_X4_69 hC rfl rfl ⟨Nat.le_of_ble_eq_true rfl, Nat.le_of_ble_eq_true rfl⟩) lc_3 rfl rfl rfl (Nat.le_of_ble_eq_true rfl) dX4_isSetInLatest_2 ⟨Nat.zero_le _, Nat.zero_le _⟩ (fun H locs hP hS => ?_)
  refine lv_istore_n (lv' := [(2, .int r1), (0, .ref (E 3)), (1, .int a1)]) hx hb dX4_isSetInLatest_5 rfl hl (by decide) rfl (fun ls hl => ?_)
  refine lv_iload_n hx hb dX4_isSetInLatest_6 rfl (lv_at hl 0 rfl) ?_
  refine lv_if_lt (tgt := 23) hx hb dX4_isSetInLatest_7 (by decide) (fun c4 => ?_) (fun c4 => ?_)
  · have h := of_t h c4
    exact t_X4_isSetInLatest_23  hF σ2 _ _ _ h hP hS (lv_sub hl [] rfl)
  · have h := of_f h c4
    refine lv_aload_n hx hb dX4_isSetInLatest_10 rfl (lv_at hl 1 rfl) ?_
    refine gf_X4_53 hC hb hP dX4_isSetInLatest_11 ?_
    refine lv_iload_n hx hb dX4_isSetInLatest_14 rfl (lv_at hl 0 rfl) ?_
    obtain ⟨g5, h⟩ := of_gd h
    refine x_iald hC hb hP lc_31 g5 dX4_isSetInLatest_15 ?_
    refine lv_if_lt (tgt := 23) hx hb dX4_isSetInLatest_16 (by decide) (fun c6 => ?_) (fun c6 => ?_)
    · have h := of_t h c6
      exact t_X4_isSetInLatest_23  hF σ2 _ _ _ h hP hS (lv_sub hl [] rfl)
    · have h := of_f h c6
      refine lv_iconst (v := 1) hx hb dX4_isSetInLatest_19 (by decide) ?_
      refine lv_goto (tgt := 24) hx hb dX4_isSetInLatest_20 (by decide) ?_
      exact t_X4_isSetInLatest_24  hF 1 σ2 _ _ _ h hP hS (lv_sub hl [] rfl)

abbrev rm_X4_latestChances : Room := { frames := 1, cells := 0, slots := 0, locals := 20 }
def f_X4_latestChances_4 : Nat → Int32 → Int32 → Sta → Option (Int32 × Sta)
  | 0, _, _, _ => none
  | n + 1, v1, v2, σ => bnd (f_X4_latestBranches σ) (fun r1 σ2 =>
    if r1 ≤ v2 then
      some (v1, σ2)
    else
      if (((gI σ2 202) - 1) * 4) + v2 < 0 ∨ 64 ≤ (((((gI σ2 202) - 1) * 4) + v2).toNatClampNeg) then none else (
      lt (v1 + (gA σ2 30 (((((gI σ2 202) - 1) * 4) + v2).toNatClampNeg))) (fun x6 =>
      lt (v2 + 1) (fun x7 =>
      f_X4_latestChances_4 n x6 x7 σ2))))
set_option maxHeartbeats 4000000 in
set_option maxRecDepth 100000 in
theorem t_X4_latestChances_4 {l : Launch} {D : va_G} {Y : CYs} {E : Nat → Nat} {p : Program} {e : Env} {s : State} {m : MethodId} {args : Array Value} {below : List Frame} {meth : Method} {c : Code} (hF : Fr p s m args meth c RX4 cX4_latestChances 3 (some .int) D Y E LC) {o : Int32 × Sta} : ∀ (n : Nat) (v1 : Int32) (v2 : Int32) (σ : Sta) (H : Heap) (locs : List Loc) (ls : Array Slot), f_X4_latestChances_4 n v1 v2 σ = some o → va_P D vwCl (wd Y E σ 0 LC) H → va_S (AF E LC.length s.heap.size) s.heap H locs → lv_has ls 3 [(0, .ref (E 3)), (1, .int v1), (2, .int v2)] → WI p l e rm_X4_latestChances s m args below meth c LC Y D E o H locs (F0 m 4 ls []) := by
  intro n
  induction n with
  | zero =>
    intro v1 v2 σ H locs ls h hP hS hl
    exact nomatch (show (none : Option (Int32 × Sta)) = some o from h)
  | succ n ih =>
    intro v1 v2 σ H locs ls h hP hS hl
    rw [f_X4_latestChances_4] at h
    obtain ⟨hC, hb, hml, hr, hlk, hD, hSW⟩ := id hF
    have hx := hC.1
    refine lv_iload_n hx hb dX4_latestChances_4 rfl (lv_at hl 2 rfl) ?_
    refine lv_aload_n hx hb dX4_latestChances_5 rfl (lv_at hl 0 rfl) ?_
    obtain ⟨r1, σ2, g3, h⟩ := of_bnd h
    refine x_VI (As := []) (rest := [.int v2]) hF hl hP hS (c_X4_latestBranches g3) (cw_X4_65 hC rfl rfl ⟨Nat.le_of_ble_eq_true rfl, Nat.le_of_ble_eq_true rfl⟩) lc_3 rfl rfl rfl (Nat.le_of_ble_eq_true rfl) dX4_latestChances_6 ⟨Nat.zero_le _, Nat.zero_le _⟩ (fun H locs hP hS => ?_)
    refine lv_icmp_ge (tgt := 36) hx hb dX4_latestChances_9 (by decide) (fun c4 => ?_) (fun c4 => ?_)
    · have h := of_t h c4
      refine lv_iload_n hx hb dX4_latestChances_36 rfl (lv_at hl 1 rfl) ?_
      exact x_iret hF hP hS h dX4_latestChances_37
    · have h := of_f h c4
      refine lv_iload_n hx hb dX4_latestChances_12 rfl (lv_at hl 1 rfl) ?_
      refine lv_aload_n hx hb dX4_latestChances_13 rfl (lv_at hl 0 rfl) ?_
      refine gf_X4_50 hC hb hP dX4_latestChances_14 ?_
      refine lv_aload_n hx hb dX4_latestChances_17 rfl (lv_at hl 0 rfl) ?_
      refine gf_X4_62 hC hb hP dX4_latestChances_18 ?_
      refine lv_iconst (v := 1) hx hb dX4_latestChances_21 (by decide) ?_
      refine lv_isub hx hb dX4_latestChances_22 ?_
      refine lv_iconst (v := 4) hx hb dX4_latestChances_23 (by decide) ?_
      refine lv_imul hx hb dX4_latestChances_24 ?_
      refine lv_iload_n hx hb dX4_latestChances_25 rfl (lv_at hl 2 rfl) ?_
      refine lv_iadd hx hb dX4_latestChances_26 ?_
      obtain ⟨g5, h⟩ := of_gd h
      refine x_iald hC hb hP lc_30 g5 dX4_latestChances_27 ?_
      refine lv_iadd hx hb dX4_latestChances_28 ?_
      refine lv_topi (fun x6 ex6 => ?_)
      have h := of_lt h ex6
      refine lv_istore_n (lv' := [(1, .int x6), (0, .ref (E 3)), (2, .int v2)]) hx hb dX4_latestChances_29 rfl hl (by decide) rfl (fun ls hl => ?_)
      obtain ⟨x7, ex7⟩ : ∃ y : Int32, y = v2 + 1 := ⟨_, rfl⟩
      have h := of_lt h ex7
      refine lv_iinc (v := x7) (lv' := [(2, .int x7), (1, .int x6), (0, .ref (E 3))]) hx hb dX4_latestChances_30 hl (k := 2) rfl (by rw [ex7]; rfl) (by decide) rfl (fun ls hl => ?_)
      refine lv_goto (tgt := 4) hx hb dX4_latestChances_33 (by decide) ?_
      exact ih x6 x7 σ2 _ _ _ h hP hS (lv_sub hl [2, 1, 0] rfl)

def f_X4_latestChances (σ : Sta) : Option (Int32 × Sta) :=
  f_X4_latestChances_4 FU 0 0 σ
set_option maxHeartbeats 4000000 in
set_option maxRecDepth 100000 in
theorem c_X4_latestChances {l : Launch} {D : va_G} {Y : CYs} {E : Nat → Nat} {σ : Sta} {o : Int32 × Sta} (h : f_X4_latestChances σ = some o) : MI l yX4_latestChances (Cond.code yX4_latestChances cX4_latestChances 3 (some .int) :: gW) rm_X4_latestChances LC Y D E [.ref (E 3)] σ o := by
  intro sz
  refine Met_of (Qc := fun sz => QI LC Y D E sz o) (by decide) (Nat.le_of_ble_eq_true rfl) (fun p e s m args below meth c hF hP ls hl => ?_) sz
  have hS : va_S (AF E LC.length s.heap.size) s.heap s.heap [] := va_S.rf
  have hl : lv_has ls 3 [(0, .ref (E 3))] := hl
  show WI p l e rm_X4_latestChances s m args below meth c LC Y D E o s.heap [] (F0 m 0 ls [])
  unfold f_X4_latestChances at h
  obtain ⟨hC, hb, hml, hr, hlk, hD, hSW⟩ := id hF
  have hx := hC.1
  refine lv_iconst (v := 0) hx hb dX4_latestChances_0 (by decide) ?_
  refine lv_istore_n (lv' := [(1, .int 0), (0, .ref (E 3))]) hx hb dX4_latestChances_1 rfl hl (by decide) rfl (fun ls hl => ?_)
  refine lv_iconst (v := 0) hx hb dX4_latestChances_2 (by decide) ?_
  refine lv_istore_n (lv' := [(2, .int 0), (1, .int 0), (0, .ref (E 3))]) hx hb dX4_latestChances_3 rfl hl (by decide) rfl (fun ls hl => ?_)
  exact t_X4_latestChances_4  hF FU 0 0 σ _ _ _ h hP hS (lv_sub hl [2, 1, 0] rfl)

abbrev rm_X4_indexOf : Room := { frames := 0, cells := 0, slots := 0, locals := 0 }
def f_X4_indexOf_34 (q0 n0 : Nat) (σ : Sta) : Option (Int32 × Sta) :=
  some (-1, σ)
set_option maxHeartbeats 4000000 in
set_option maxRecDepth 100000 in
theorem t_X4_indexOf_34 {l : Launch} {D : va_G} {Y : CYs} {E : Nat → Nat} {p : Program} {e : Env} {s : State} {m : MethodId} {args : Array Value} {below : List Frame} {meth : Method} {c : Code} {q0 n0 : Nat} {z0 : List (Nat × Nat)} (hq0 : LC[q0]? = some (2, n0, z0)) (hF : Fr p s m args meth c RX4 cX4_indexOf 5 (some .int) D Y E LC) {o : Int32 × Sta} : ∀ (σ : Sta) (H : Heap) (locs : List Loc) (ls : Array Slot), f_X4_indexOf_34 q0 n0 σ = some o → va_P D vwCl (wd Y E σ 0 LC) H → va_S (AF E LC.length s.heap.size) s.heap H locs → lv_has ls 5 [] → WI p l e rm_X4_indexOf s m args below meth c LC Y D E o H locs (F0 m 34 ls []) := by
  intro σ H locs ls h hP hS hl
  unfold f_X4_indexOf_34 at h
  obtain ⟨hC, hb, hml, hr, hlk, hD, hSW⟩ := id hF
  have hx := hC.1
  refine lv_iconst (v := -1) hx hb dX4_indexOf_34 (by decide) ?_
  exact x_iret hF hP hS h dX4_indexOf_35

def f_X4_indexOf_3 (q0 n0 : Nat) : Nat → Int32 → Int64 → Int32 → Sta → Option (Int32 × Sta)
  | 0, _, _, _, _ => none
  | n + 1, v1, v2, v4, σ => if v1 ≤ v4 then
      f_X4_indexOf_34 q0 n0 σ
    else
      if Int32.ofNat n0 ≤ v4 then
        f_X4_indexOf_34 q0 n0 σ
      else
        if v4 < 0 ∨ n0 ≤ (v4.toNatClampNeg) then none else (
        if lg_cmp (gJ σ q0 (v4.toNatClampNeg)) v2 = 0 then
          some (v4, σ)
        else
          lt (v4 + 1) (fun x5 =>
          f_X4_indexOf_3 q0 n0 n v1 v2 x5 σ))
set_option maxHeartbeats 4000000 in
set_option maxRecDepth 100000 in
theorem t_X4_indexOf_3 {l : Launch} {D : va_G} {Y : CYs} {E : Nat → Nat} {p : Program} {e : Env} {s : State} {m : MethodId} {args : Array Value} {below : List Frame} {meth : Method} {c : Code} {q0 n0 : Nat} {z0 : List (Nat × Nat)} (hq0 : LC[q0]? = some (2, n0, z0)) (hF : Fr p s m args meth c RX4 cX4_indexOf 5 (some .int) D Y E LC) {o : Int32 × Sta} : ∀ (n : Nat) (v1 : Int32) (v2 : Int64) (v4 : Int32) (σ : Sta) (H : Heap) (locs : List Loc) (ls : Array Slot), f_X4_indexOf_3 q0 n0 n v1 v2 v4 σ = some o → va_P D vwCl (wd Y E σ 0 LC) H → va_S (AF E LC.length s.heap.size) s.heap H locs → lv_has ls 5 [(0, .ref (E q0)), (1, .int v1), (2, .long v2), (4, .int v4)] → WI p l e rm_X4_indexOf s m args below meth c LC Y D E o H locs (F0 m 3 ls []) := by
  intro n
  induction n with
  | zero =>
    intro v1 v2 v4 σ H locs ls h hP hS hl
    exact nomatch (show (none : Option (Int32 × Sta)) = some o from h)
  | succ n ih =>
    intro v1 v2 v4 σ H locs ls h hP hS hl
    rw [f_X4_indexOf_3] at h
    obtain ⟨hC, hb, hml, hr, hlk, hD, hSW⟩ := id hF
    have hx := hC.1
    refine lv_iload hx hb dX4_indexOf_3 (lv_at hl 3 rfl) ?_
    refine lv_iload_n hx hb dX4_indexOf_5 rfl (lv_at hl 1 rfl) ?_
    refine lv_icmp_ge (tgt := 34) hx hb dX4_indexOf_6 (by decide) (fun c1 => ?_) (fun c1 => ?_)
    · have h := of_t h c1
      exact t_X4_indexOf_34  hq0 hF σ _ _ _ h hP hS (lv_sub hl [] rfl)
    · have h := of_f h c1
      refine lv_iload hx hb dX4_indexOf_9 (lv_at hl 3 rfl) ?_
      refine lv_aload_n hx hb dX4_indexOf_11 rfl (lv_at hl 0 rfl) ?_
      refine x_alen (v := Int32.ofNat n0) hC hb hP hq0 (Or.inr (Or.inl rfl)) rfl dX4_indexOf_12 ?_
      refine lv_icmp_ge (tgt := 34) hx hb dX4_indexOf_13 (by decide) (fun c2 => ?_) (fun c2 => ?_)
      · have h := of_t h c2
        exact t_X4_indexOf_34  hq0 hF σ _ _ _ h hP hS (lv_sub hl [] rfl)
      · have h := of_f h c2
        refine lv_aload_n hx hb dX4_indexOf_16 rfl (lv_at hl 0 rfl) ?_
        refine lv_iload hx hb dX4_indexOf_17 (lv_at hl 3 rfl) ?_
        obtain ⟨g3, h⟩ := of_gd h
        refine x_lald hC hb hP hq0 g3 dX4_indexOf_19 ?_
        refine lv_lload_n hx hb dX4_indexOf_20 rfl (lv_at hl 2 rfl) ?_
        refine W.lcmp hx hb dX4_indexOf_21 ?_
        refine lv_if_ne (tgt := 28) hx hb dX4_indexOf_22 (by decide) (fun c4 => ?_) (fun c4 => ?_)
        · have h := of_f h c4
          obtain ⟨x5, ex5⟩ : ∃ y : Int32, y = v4 + 1 := ⟨_, rfl⟩
          have h := of_lt h ex5
          refine lv_iinc (v := x5) (lv' := [(4, .int x5), (0, .ref (E q0)), (1, .int v1), (2, .long v2)]) hx hb dX4_indexOf_28 hl (k := 3) rfl (by rw [ex5]; rfl) (by decide) rfl (fun ls hl => ?_)
          refine lv_goto (tgt := 3) hx hb dX4_indexOf_31 (by decide) ?_
          exact ih v1 v2 x5 σ _ _ _ h hP hS (lv_sub hl [1, 2, 3, 0] rfl)
        · have h := of_t h c4
          refine lv_iload hx hb dX4_indexOf_25 (lv_at hl 3 rfl) ?_
          exact x_iret hF hP hS h dX4_indexOf_27

def f_X4_indexOf (q0 n0 : Nat) (a1 : Int32) (a2 : Int64) (σ : Sta) : Option (Int32 × Sta) :=
  f_X4_indexOf_3 q0 n0 FU a1 a2 0 σ
set_option maxHeartbeats 4000000 in
set_option maxRecDepth 100000 in
theorem c_X4_indexOf {l : Launch} {D : va_G} {Y : CYs} {E : Nat → Nat} {q0 n0 : Nat} {a1 : Int32} {a2 : Int64} {z0 : List (Nat × Nat)} (hq0 : LC[q0]? = some (2, n0, z0)) {σ : Sta} {o : Int32 × Sta} (h : f_X4_indexOf q0 n0 a1 a2 σ = some o) : MI l yX4_indexOf (Cond.code yX4_indexOf cX4_indexOf 5 (some .int) :: gW) rm_X4_indexOf LC Y D E [.ref (E q0), .int a1, .long a2] σ o := by
  intro sz
  refine Met_of (Qc := fun sz => QI LC Y D E sz o) (by decide) (Nat.le_of_ble_eq_true rfl) (fun p e s m args below meth c hF hP ls hl => ?_) sz
  have hS : va_S (AF E LC.length s.heap.size) s.heap s.heap [] := va_S.rf
  have hl : lv_has ls 5 [(0, .ref (E q0)), (1, .int a1), (2, .long a2)] := hl
  show WI p l e rm_X4_indexOf s m args below meth c LC Y D E o s.heap [] (F0 m 0 ls [])
  unfold f_X4_indexOf at h
  obtain ⟨hC, hb, hml, hr, hlk, hD, hSW⟩ := id hF
  have hx := hC.1
  refine lv_iconst (v := 0) hx hb dX4_indexOf_0 (by decide) ?_
  refine lv_istore (lv' := [(4, .int 0), (0, .ref (E q0)), (1, .int a1), (2, .long a2)]) hx hb dX4_indexOf_1 hl (by decide) rfl (fun ls hl => ?_)
  exact t_X4_indexOf_3  hq0 hF FU a1 a2 0 σ _ _ _ h hP hS (lv_sub hl [1, 2, 3, 0] rfl)

abbrev rm_X4_variableNamed : Room := { frames := 1, cells := 0, slots := 0, locals := 24 }
def f_X4_variableNamed (a1 : Int64) (σ : Sta) : Option (Int32 × Sta) :=
  bnd (f_X4_indexOf 19 6 (gI σ 192) a1 σ) (fun r1 σ2 =>
  some (r1, σ2))
set_option maxHeartbeats 4000000 in
set_option maxRecDepth 100000 in
theorem c_X4_variableNamed {l : Launch} {D : va_G} {Y : CYs} {E : Nat → Nat} {a1 : Int64} {σ : Sta} {o : Int32 × Sta} (h : f_X4_variableNamed a1 σ = some o) : MI l yX4_variableNamed (Cond.code yX4_variableNamed cX4_variableNamed 3 (some .int) :: gW) rm_X4_variableNamed LC Y D E [.ref (E 3), .long a1] σ o := by
  intro sz
  refine Met_of (Qc := fun sz => QI LC Y D E sz o) (by decide) (Nat.le_of_ble_eq_true rfl) (fun p e s m args below meth c hF hP ls hl => ?_) sz
  have hS : va_S (AF E LC.length s.heap.size) s.heap s.heap [] := va_S.rf
  have hl : lv_has ls 3 [(0, .ref (E 3)), (1, .long a1)] := hl
  show WI p l e rm_X4_variableNamed s m args below meth c LC Y D E o s.heap [] (F0 m 0 ls [])
  unfold f_X4_variableNamed at h
  obtain ⟨hC, hb, hml, hr, hlk, hD, hSW⟩ := id hF
  have hx := hC.1
  refine lv_aload_n hx hb dX4_variableNamed_0 rfl (lv_at hl 0 rfl) ?_
  refine gf_X4_9 hC hb hP dX4_variableNamed_1 ?_
  refine lv_aload_n hx hb dX4_variableNamed_4 rfl (lv_at hl 0 rfl) ?_
  refine gf_X4_56 hC hb hP dX4_variableNamed_5 ?_
  refine lv_lload_n hx hb dX4_variableNamed_8 rfl (lv_at hl 1 rfl) ?_
  obtain ⟨r1, σ2, g3, h⟩ := of_bnd h
  refine x_SI (As := [.ref (E 19), .int (gI σ 192), .long a1]) (rest := []) hF hl hP hS (c_X4_indexOf lc_19 g3) (cw_X4_73 hC rfl rfl ⟨Nat.le_of_ble_eq_true rfl, Nat.le_of_ble_eq_true rfl⟩) rfl rfl (Nat.le_of_ble_eq_true rfl) dX4_variableNamed_9 ⟨Nat.zero_le _, Nat.zero_le _⟩ (fun H locs hP hS => ?_)
  exact x_iret hF hP hS h dX4_variableNamed_12

abbrev rm_X4_isNameTaken : Room := { frames := 2, cells := 0, slots := 0, locals := 46 }
def f_X4_isNameTaken_43 (s0 : Int32) (σ : Sta) : Option (Int32 × Sta) :=
  if ¬ (s0 = 0 ∨ s0 = 1) then none else (
  some (s0, σ))
set_option maxHeartbeats 4000000 in
set_option maxRecDepth 100000 in
theorem t_X4_isNameTaken_43 {l : Launch} {D : va_G} {Y : CYs} {E : Nat → Nat} {p : Program} {e : Env} {s : State} {m : MethodId} {args : Array Value} {below : List Frame} {meth : Method} {c : Code} (hF : Fr p s m args meth c RX4 cX4_isNameTaken 3 (some .boolean) D Y E LC) {o : Int32 × Sta} : ∀ (s0 : Int32) (σ : Sta) (H : Heap) (locs : List Loc) (ls : Array Slot), f_X4_isNameTaken_43 s0 σ = some o → va_P D vwCl (wd Y E σ 0 LC) H → va_S (AF E LC.length s.heap.size) s.heap H locs → lv_has ls 3 [] → WI p l e rm_X4_isNameTaken s m args below meth c LC Y D E o H locs (F0 m 43 ls [.int s0]) := by
  intro s0 σ H locs ls h hP hS hl
  unfold f_X4_isNameTaken_43 at h
  obtain ⟨hC, hb, hml, hr, hlk, hD, hSW⟩ := id hF
  have hx := hC.1
  obtain ⟨g1, h⟩ := of_gd h
  exact x_zret hF hP hS (zb g1) h dX4_isNameTaken_43

def f_X4_isNameTaken_38 (σ : Sta) : Option (Int32 × Sta) :=
  f_X4_isNameTaken_43 1 σ
set_option maxHeartbeats 4000000 in
set_option maxRecDepth 100000 in
theorem t_X4_isNameTaken_38 {l : Launch} {D : va_G} {Y : CYs} {E : Nat → Nat} {p : Program} {e : Env} {s : State} {m : MethodId} {args : Array Value} {below : List Frame} {meth : Method} {c : Code} (hF : Fr p s m args meth c RX4 cX4_isNameTaken 3 (some .boolean) D Y E LC) {o : Int32 × Sta} : ∀ (σ : Sta) (H : Heap) (locs : List Loc) (ls : Array Slot), f_X4_isNameTaken_38 σ = some o → va_P D vwCl (wd Y E σ 0 LC) H → va_S (AF E LC.length s.heap.size) s.heap H locs → lv_has ls 3 [] → WI p l e rm_X4_isNameTaken s m args below meth c LC Y D E o H locs (F0 m 38 ls []) := by
  intro σ H locs ls h hP hS hl
  unfold f_X4_isNameTaken_38 at h
  obtain ⟨hC, hb, hml, hr, hlk, hD, hSW⟩ := id hF
  have hx := hC.1
  refine lv_iconst (v := 1) hx hb dX4_isNameTaken_38 (by decide) ?_
  refine lv_goto (tgt := 43) hx hb dX4_isNameTaken_39 (by decide) ?_
  exact t_X4_isNameTaken_43  hF 1 σ _ _ _ h hP hS (lv_sub hl [] rfl)

def f_X4_isNameTaken (a1 : Int64) (σ : Sta) : Option (Int32 × Sta) :=
  bnd (f_X4_variableNamed a1 σ) (fun r1 σ2 =>
  if 0 ≤ r1 then
    f_X4_isNameTaken_38 σ2
  else
    bnd (f_X4_indexOf 23 3 (gI σ2 197) a1 σ2) (fun r5 σ6 =>
    if 0 ≤ r5 then
      f_X4_isNameTaken_38 σ6
    else
      bnd (f_X4_indexOf 26 16 (gI σ6 202) a1 σ6) (fun r9 σ10 =>
      if r9 < 0 then
        f_X4_isNameTaken_43 0 σ10
      else
        f_X4_isNameTaken_38 σ10)))
set_option maxHeartbeats 4000000 in
set_option maxRecDepth 100000 in
theorem c_X4_isNameTaken {l : Launch} {D : va_G} {Y : CYs} {E : Nat → Nat} {a1 : Int64} {σ : Sta} {o : Int32 × Sta} (h : f_X4_isNameTaken a1 σ = some o) : MI l yX4_isNameTaken (Cond.code yX4_isNameTaken cX4_isNameTaken 3 (some .boolean) :: gW) rm_X4_isNameTaken LC Y D E [.ref (E 3), .long a1] σ o := by
  intro sz
  refine Met_of (Qc := fun sz => QI LC Y D E sz o) (by decide) (Nat.le_of_ble_eq_true rfl) (fun p e s m args below meth c hF hP ls hl => ?_) sz
  have hS : va_S (AF E LC.length s.heap.size) s.heap s.heap [] := va_S.rf
  have hl : lv_has ls 3 [(0, .ref (E 3)), (1, .long a1)] := hl
  show WI p l e rm_X4_isNameTaken s m args below meth c LC Y D E o s.heap [] (F0 m 0 ls [])
  unfold f_X4_isNameTaken at h
  obtain ⟨hC, hb, hml, hr, hlk, hD, hSW⟩ := id hF
  have hx := hC.1
  refine lv_aload_n hx hb dX4_isNameTaken_0 rfl (lv_at hl 0 rfl) ?_
  refine lv_lload_n hx hb dX4_isNameTaken_1 rfl (lv_at hl 1 rfl) ?_
  obtain ⟨r1, σ2, g3, h⟩ := of_bnd h
  refine x_VI (As := [.long a1]) (rest := []) hF hl hP hS (c_X4_variableNamed g3) (cw_X4_77 hC rfl rfl ⟨Nat.le_of_ble_eq_true rfl, Nat.le_of_ble_eq_true rfl⟩) lc_3 rfl rfl rfl (Nat.le_of_ble_eq_true rfl) dX4_isNameTaken_2 ⟨Nat.zero_le _, Nat.zero_le _⟩ (fun H locs hP hS => ?_)
  refine lv_if_ge (tgt := 38) hx hb dX4_isNameTaken_5 (by decide) (fun c4 => ?_) (fun c4 => ?_)
  · have h := of_t h c4
    exact t_X4_isNameTaken_38  hF σ2 _ _ _ h hP hS (lv_sub hl [] rfl)
  · have h := of_f h c4
    refine lv_aload_n hx hb dX4_isNameTaken_8 rfl (lv_at hl 0 rfl) ?_
    refine gf_X4_25 hC hb hP dX4_isNameTaken_9 ?_
    refine lv_aload_n hx hb dX4_isNameTaken_12 rfl (lv_at hl 0 rfl) ?_
    refine gf_X4_59 hC hb hP dX4_isNameTaken_13 ?_
    refine lv_lload_n hx hb dX4_isNameTaken_16 rfl (lv_at hl 1 rfl) ?_
    obtain ⟨r5, σ6, g7, h⟩ := of_bnd h
    refine x_SI (As := [.ref (E 23), .int (gI σ2 197), .long a1]) (rest := []) hF hl hP hS (c_X4_indexOf lc_23 g7) (cw_X4_73 hC rfl rfl ⟨Nat.le_of_ble_eq_true rfl, Nat.le_of_ble_eq_true rfl⟩) rfl rfl (Nat.le_of_ble_eq_true rfl) dX4_isNameTaken_17 ⟨Nat.zero_le _, Nat.zero_le _⟩ (fun H locs hP hS => ?_)
    refine lv_if_ge (tgt := 38) hx hb dX4_isNameTaken_20 (by decide) (fun c8 => ?_) (fun c8 => ?_)
    · have h := of_t h c8
      exact t_X4_isNameTaken_38  hF σ6 _ _ _ h hP hS (lv_sub hl [] rfl)
    · have h := of_f h c8
      refine lv_aload_n hx hb dX4_isNameTaken_23 rfl (lv_at hl 0 rfl) ?_
      refine gf_X4_38 hC hb hP dX4_isNameTaken_24 ?_
      refine lv_aload_n hx hb dX4_isNameTaken_27 rfl (lv_at hl 0 rfl) ?_
      refine gf_X4_62 hC hb hP dX4_isNameTaken_28 ?_
      refine lv_lload_n hx hb dX4_isNameTaken_31 rfl (lv_at hl 1 rfl) ?_
      obtain ⟨r9, σ10, g11, h⟩ := of_bnd h
      refine x_SI (As := [.ref (E 26), .int (gI σ6 202), .long a1]) (rest := []) hF hl hP hS (c_X4_indexOf lc_26 g11) (cw_X4_73 hC rfl rfl ⟨Nat.le_of_ble_eq_true rfl, Nat.le_of_ble_eq_true rfl⟩) rfl rfl (Nat.le_of_ble_eq_true rfl) dX4_isNameTaken_32 ⟨Nat.zero_le _, Nat.zero_le _⟩ (fun H locs hP hS => ?_)
      refine lv_if_lt (tgt := 42) hx hb dX4_isNameTaken_35 (by decide) (fun c12 => ?_) (fun c12 => ?_)
      · have h := of_t h c12
        refine lv_iconst (v := 0) hx hb dX4_isNameTaken_42 (by decide) ?_
        exact t_X4_isNameTaken_43  hF 0 σ10 _ _ _ h hP hS (lv_sub hl [] rfl)
      · have h := of_f h c12
        exact t_X4_isNameTaken_38  hF σ10 _ _ _ h hP hS (lv_sub hl [] rfl)
