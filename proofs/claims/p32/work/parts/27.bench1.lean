theorem gf_X8_82 {p : Program} {l : Launch} {e : Env} {R : Room} {s : State} {m : MethodId} {args : Array Value} {below : List Frame} {meth : Method} {c : Code} {H : Heap} {locs : List Loc} {cells slots : Nat} {Q : State → Prop} {D : va_G} {Y : CYs} {E : Nat → Nat} {σ : Sta} {cc : ByteArray} {pc : Nat} {ls : Array Slot} {rest : List Value} (hC : Ctx p s m args RX8 D Y) (hb : c.code = cc) (hP : va_P D vwCl (wd Y E σ 0 LC) H) (hdg : decode cc pc = .ok (.getfield 82, 3)) (kk : W p l e R s m args below meth c H locs cells slots Q (F0 m (pc + 3) ls (.int (gI σ 1) :: rest))) : W p l e R s m args below meth c H locs cells slots Q (F0 m pc ls (.ref (E 0) :: rest)) :=
  x_getI hC hb hP inGX8 lc_0 rfl 1 (by decide) rfl (gw_t (tb2 (List.mem_of_getElem? (i := 79) rfl)) rfl) rfl hdg kk
theorem gf_X8_9 {p : Program} {l : Launch} {e : Env} {R : Room} {s : State} {m : MethodId} {args : Array Value} {below : List Frame} {meth : Method} {c : Code} {H : Heap} {locs : List Loc} {cells slots : Nat} {Q : State → Prop} {D : va_G} {Y : CYs} {E : Nat → Nat} {σ : Sta} {cc : ByteArray} {pc : Nat} {ls : Array Slot} {rest : List Value} (hC : Ctx p s m args RX8 D Y) (hb : c.code = cc) (hP : va_P D vwCl (wd Y E σ 0 LC) H) (hdg : decode cc pc = .ok (.getfield 9, 3)) (kk : W p l e R s m args below meth c H locs cells slots Q (F0 m (pc + 3) ls (.ref (E 8) :: rest))) : W p l e R s m args below meth c H locs cells slots Q (F0 m pc ls (.ref (E 0) :: rest)) :=
  x_getR hC hb hP inGX8 lc_0 rfl 0 (by decide) rfl (gw_t (tb2 (List.mem_of_getElem? (i := 78) rfl)) rfl) rfl hdg kk
theorem pf_X8_82 {p : Program} {l : Launch} {e : Env} {R : Room} {s : State} {m : MethodId} {args : Array Value} {below : List Frame} {meth : Method} {c : Code} {H : Heap} {locs : List Loc} {cells slots : Nat} {Q : State → Prop} {D : va_G} {Y : CYs} {E : Nat → Nat} {σ : Sta} {cc : ByteArray} {pc : Nat} {ls : Array Slot} {rest : List Value} {A : Nat → Prop} {H0 : Heap} {x : Int32} (hC : Ctx p s m args RX8 D Y) (hb : c.code = cc) (hP : va_P D vwCl (wd Y E σ 0 LC) H) (hD : ∀ τ, va_D A (wd Y E τ 0 LC)) (hS : va_S A H0 H locs) (hdg : decode cc pc = .ok (.putfield 82, 3)) (kk : ∀ (H1 : Heap) (locs1 : List Loc) (τ : Sta), τ = sI σ 1 x → va_P D vwCl (wd Y E τ 0 LC) H1 → va_S A H0 H1 locs1 → W p l e R s m args below meth c H1 locs1 cells slots Q (F0 m (pc + 3) ls rest)) : W p l e R s m args below meth c H locs cells slots Q (F0 m pc ls (.int x :: .ref (E 0) :: rest)) :=
  x_putI lokC hC hb hP hD hS inGX8 tyX8 tyX8_ok nmX8 lc_0 rfl 1 (by decide) rfl (gw_t (tb2 (List.mem_of_getElem? (i := 79) rfl)) rfl) rfl rfl rfl rfl rfl hdg kk
theorem cw_X8_92 {R : Room} {p : Program} {s : State} {m : MethodId} {args : Array Value} {D : va_G} {Y : CYs} {rm : Room} (hC : Ctx p s m args RX8 D Y) (hrc : rm.cells = 0) (hrs : rm.slots = 0) (hR : rm.frames + 1 ≤ R.frames ∧ 8 + (3 + 11) + rm.locals ≤ R.locals) : CallW R s args RX8 RX8 92 yX8_append cX8_append 3 none (Cond.code yX8_append cX8_append 3 none :: gW) rm 0 0 1 :=
  cwV 1 hC.2.1 (gi_V (gw_t (tb5 (List.mem_of_getElem? (i := 49) rfl)) rfl) (gw_t (tb5 (List.mem_of_getElem? (i := 51) rfl)) rfl) (gw_s (q := (⟨"MarkovBench", "append", "(I)V"⟩, 14)) (lp2_ (List.mem_of_getElem? (i := 2) rfl))) (gw_t (tb1 (List.mem_of_getElem? (i := 1) rfl)) rfl) (gw_t (tb5 (List.mem_of_getElem? (i := 52) rfl)) rfl)) rfl hrc hrs ⟨rfl, by decide +kernel, by decide +kernel, by decide +kernel⟩ hR
theorem cw_X8_96 {R : Room} {p : Program} {s : State} {m : MethodId} {args : Array Value} {D : va_G} {Y : CYs} {rm : Room} (hC : Ctx p s m args RX8 D Y) (hrc : rm.cells = 0) (hrs : rm.slots = 0) (hR : rm.frames + 1 ≤ R.frames ∧ 8 + (4 + 11) + rm.locals ≤ R.locals) : CallW R s args RX8 RX8 96 yX8_checkRange cX8_checkRange 4 none (Cond.code yX8_checkRange cX8_checkRange 4 none :: gW) rm 0 0 3 :=
  cwV 3 hC.2.1 (gi_V (gw_t (tb3 (List.mem_of_getElem? (i := 16) rfl)) rfl) (gw_t (tb3 (List.mem_of_getElem? (i := 18) rfl)) rfl) (gw_s (q := (⟨"MarkovBench", "checkRange", "(III)V"⟩, 14)) (lp1_ (List.mem_of_getElem? (i := 5) rfl))) (gw_t (tb1 (List.mem_of_getElem? (i := 1) rfl)) rfl) (gw_t (tb3 (List.mem_of_getElem? (i := 19) rfl)) rfl)) rfl hrc hrs ⟨rfl, by decide +kernel, by decide +kernel, by decide +kernel⟩ hR
theorem gf_X8_30 {p : Program} {l : Launch} {e : Env} {R : Room} {s : State} {m : MethodId} {args : Array Value} {below : List Frame} {meth : Method} {c : Code} {H : Heap} {locs : List Loc} {cells slots : Nat} {Q : State → Prop} {D : va_G} {Y : CYs} {E : Nat → Nat} {σ : Sta} {cc : ByteArray} {pc : Nat} {ls : Array Slot} {rest : List Value} (hC : Ctx p s m args RX8 D Y) (hb : c.code = cc) (hP : va_P D vwCl (wd Y E σ 0 LC) H) (hdg : decode cc pc = .ok (.getfield 30, 3)) (kk : W p l e R s m args below meth c H locs cells slots Q (F0 m (pc + 3) ls (.ref (E 3) :: rest))) : W p l e R s m args below meth c H locs cells slots Q (F0 m pc ls (.ref (E 0) :: rest)) :=
  x_getR hC hb hP inGX8 lc_0 rfl 4 (by decide) rfl (gw_t (tb2 (List.mem_of_getElem? (i := 82) rfl)) rfl) rfl hdg kk
theorem cw_X8_272 {R : Room} {p : Program} {s : State} {m : MethodId} {args : Array Value} {D : va_G} {Y : CYs} {rm : Room} (hC : Ctx p s m args RX8 D Y) (hrc : rm.cells = 0) (hrs : rm.slots = 0) (hR : rm.frames + 1 ≤ R.frames ∧ 8 + (1 + 11) + rm.locals ≤ R.locals) : CallW R s args RX8 RX4 272 yX4_clear cX4_clear 1 none (Cond.code yX4_clear cX4_clear 1 none :: gW) rm 0 0 0 :=
  cwV 0 hC.2.1 (gi_V (gw_t (tb5 (List.mem_of_getElem? (i := 65) rfl)) rfl) (gw_t (tb5 (List.mem_of_getElem? (i := 66) rfl)) rfl) (gw_t (tb5 (List.mem_of_getElem? (i := 67) rfl)) rfl) (gw_t (tb1 (List.mem_of_getElem? (i := 4) rfl)) rfl) (gw_t (tb5 (List.mem_of_getElem? (i := 68) rfl)) rfl)) rfl hrc hrs ⟨rfl, by decide +kernel, by decide +kernel, by decide +kernel⟩ hR
theorem gf_X8_48 {p : Program} {l : Launch} {e : Env} {R : Room} {s : State} {m : MethodId} {args : Array Value} {below : List Frame} {meth : Method} {c : Code} {H : Heap} {locs : List Loc} {cells slots : Nat} {Q : State → Prop} {D : va_G} {Y : CYs} {E : Nat → Nat} {σ : Sta} {cc : ByteArray} {pc : Nat} {ls : Array Slot} {rest : List Value} (hC : Ctx p s m args RX8 D Y) (hb : c.code = cc) (hP : va_P D vwCl (wd Y E σ 0 LC) H) (hdg : decode cc pc = .ok (.getfield 48, 3)) (kk : W p l e R s m args below meth c H locs cells slots Q (F0 m (pc + 3) ls (.ref (E 5) :: rest))) : W p l e R s m args below meth c H locs cells slots Q (F0 m pc ls (.ref (E 0) :: rest)) :=
  x_getR hC hb hP inGX8 lc_0 rfl 6 (by decide) rfl (gw_t (tb2 (List.mem_of_getElem? (i := 84) rfl)) rfl) rfl hdg kk
theorem cw_X8_275 {R : Room} {p : Program} {s : State} {m : MethodId} {args : Array Value} {D : va_G} {Y : CYs} {rm : Room} (hC : Ctx p s m args RX8 D Y) (hrc : rm.cells = 0) (hrs : rm.slots = 0) (hR : rm.frames + 1 ≤ R.frames ∧ 8 + (1 + 11) + rm.locals ≤ R.locals) : CallW R s args RX8 RX5 275 yX5_clear cX5_clear 1 none (Cond.code yX5_clear cX5_clear 1 none :: gW) rm 0 0 0 :=
  cwV 0 hC.2.1 (gi_V (gw_t (tb5 (List.mem_of_getElem? (i := 69) rfl)) rfl) (gw_t (tb5 (List.mem_of_getElem? (i := 70) rfl)) rfl) (gw_t (tb5 (List.mem_of_getElem? (i := 71) rfl)) rfl) (gw_t (tb1 (List.mem_of_getElem? (i := 6) rfl)) rfl) (gw_t (tb5 (List.mem_of_getElem? (i := 72) rfl)) rfl)) rfl hrc hrs ⟨rfl, by decide +kernel, by decide +kernel, by decide +kernel⟩ hR
theorem gf_X8_64 {p : Program} {l : Launch} {e : Env} {R : Room} {s : State} {m : MethodId} {args : Array Value} {below : List Frame} {meth : Method} {c : Code} {H : Heap} {locs : List Loc} {cells slots : Nat} {Q : State → Prop} {D : va_G} {Y : CYs} {E : Nat → Nat} {σ : Sta} {cc : ByteArray} {pc : Nat} {ls : Array Slot} {rest : List Value} (hC : Ctx p s m args RX8 D Y) (hb : c.code = cc) (hP : va_P D vwCl (wd Y E σ 0 LC) H) (hdg : decode cc pc = .ok (.getfield 64, 3)) (kk : W p l e R s m args below meth c H locs cells slots Q (F0 m (pc + 3) ls (.ref (E 7) :: rest))) : W p l e R s m args below meth c H locs cells slots Q (F0 m pc ls (.ref (E 0) :: rest)) :=
  x_getR hC hb hP inGX8 lc_0 rfl 8 (by decide) rfl (gw_t (tb2 (List.mem_of_getElem? (i := 86) rfl)) rfl) rfl hdg kk
theorem cw_X8_276 {R : Room} {p : Program} {s : State} {m : MethodId} {args : Array Value} {D : va_G} {Y : CYs} {rm : Room} (hC : Ctx p s m args RX8 D Y) (hrc : rm.cells = 0) (hrs : rm.slots = 0) (hR : rm.frames + 1 ≤ R.frames ∧ 8 + (1 + 11) + rm.locals ≤ R.locals) : CallW R s args RX8 RX3 276 yX3_clear cX3_clear 1 none (Cond.code yX3_clear cX3_clear 1 none :: gW) rm 0 0 0 :=
  cwV 0 hC.2.1 (gi_V (gw_t (tb5 (List.mem_of_getElem? (i := 73) rfl)) rfl) (gw_t (tb5 (List.mem_of_getElem? (i := 74) rfl)) rfl) (gw_t (tb5 (List.mem_of_getElem? (i := 75) rfl)) rfl) (gw_t (tb1 (List.mem_of_getElem? (i := 8) rfl)) rfl) (gw_t (tb5 (List.mem_of_getElem? (i := 76) rfl)) rfl)) rfl hrc hrs ⟨rfl, by decide +kernel, by decide +kernel, by decide +kernel⟩ hR
theorem pf_X8_132 {p : Program} {l : Launch} {e : Env} {R : Room} {s : State} {m : MethodId} {args : Array Value} {below : List Frame} {meth : Method} {c : Code} {H : Heap} {locs : List Loc} {cells slots : Nat} {Q : State → Prop} {D : va_G} {Y : CYs} {E : Nat → Nat} {σ : Sta} {cc : ByteArray} {pc : Nat} {ls : Array Slot} {rest : List Value} {A : Nat → Prop} {H0 : Heap} {x : Int32} (hC : Ctx p s m args RX8 D Y) (hb : c.code = cc) (hP : va_P D vwCl (wd Y E σ 0 LC) H) (hD : ∀ τ, va_D A (wd Y E τ 0 LC)) (hS : va_S A H0 H locs) (hdg : decode cc pc = .ok (.putfield 132, 3)) (kk : ∀ (H1 : Heap) (locs1 : List Loc) (τ : Sta), τ = sI σ 11 x → va_P D vwCl (wd Y E τ 0 LC) H1 → va_S A H0 H1 locs1 → W p l e R s m args below meth c H1 locs1 cells slots Q (F0 m (pc + 3) ls rest)) : W p l e R s m args below meth c H locs cells slots Q (F0 m pc ls (.int x :: .ref (E 0) :: rest)) :=
  x_putI lokC hC hb hP hD hS inGX8 tyX8 tyX8_ok nmX8 lc_0 rfl 11 (by decide) rfl (gw_t (tb2 (List.mem_of_getElem? (i := 89) rfl)) rfl) rfl rfl rfl rfl rfl hdg kk
theorem gf_X8_68 {p : Program} {l : Launch} {e : Env} {R : Room} {s : State} {m : MethodId} {args : Array Value} {below : List Frame} {meth : Method} {c : Code} {H : Heap} {locs : List Loc} {cells slots : Nat} {Q : State → Prop} {D : va_G} {Y : CYs} {E : Nat → Nat} {σ : Sta} {cc : ByteArray} {pc : Nat} {ls : Array Slot} {rest : List Value} (hC : Ctx p s m args RX8 D Y) (hb : c.code = cc) (hP : va_P D vwCl (wd Y E σ 0 LC) H) (hdg : decode cc pc = .ok (.getfield 68, 3)) (kk : W p l e R s m args below meth c H locs cells slots Q (F0 m (pc + 3) ls (.ref (E 9) :: rest))) : W p l e R s m args below meth c H locs cells slots Q (F0 m pc ls (.ref (E 0) :: rest)) :=
  x_getR hC hb hP inGX8 lc_0 rfl 9 (by decide) rfl (gw_t (tb2 (List.mem_of_getElem? (i := 87) rfl)) rfl) rfl hdg kk
theorem cw_X8_232 {R : Room} {p : Program} {s : State} {m : MethodId} {args : Array Value} {D : va_G} {Y : CYs} {rm : Room} (hC : Ctx p s m args RX8 D Y) (hrc : rm.cells = 0) (hrs : rm.slots = 0) (hR : rm.frames + 1 ≤ R.frames ∧ 8 + (4 + 11) + rm.locals ≤ R.locals) : CallB R s args RX8 232 yJ7_fill_53178 cJ7_fill_53178 4 none (Cond.code yJ7_fill_53178 cJ7_fill_53178 4 none :: gW) rm 0 0 2 ∧ (Cond.static yJ7_fill_53178).before args s = true :=
  ⟨callB_of 2 hC.2.1 (gi_law (gw_t (tb5 (List.mem_of_getElem? (i := 80) rfl)) rfl)) rfl hrc hrs (hC.2.1 (Cond.initialized RJ7) (gw_t (tb1 (List.mem_of_getElem? (i := 17) rfl)) rfl)) (hC.2.1 (Cond.methodLink RX8 232 yJ7_fill_53178) (gw_t (tb5 (List.mem_of_getElem? (i := 78) rfl)) rfl)) ⟨by decide +kernel, by decide +kernel, by decide +kernel⟩ hR, hC.2.1 (Cond.static yJ7_fill_53178) (gw_t (tb5 (List.mem_of_getElem? (i := 79) rfl)) rfl)⟩
theorem gf_X8_39 {p : Program} {l : Launch} {e : Env} {R : Room} {s : State} {m : MethodId} {args : Array Value} {below : List Frame} {meth : Method} {c : Code} {H : Heap} {locs : List Loc} {cells slots : Nat} {Q : State → Prop} {D : va_G} {Y : CYs} {E : Nat → Nat} {σ : Sta} {cc : ByteArray} {pc : Nat} {ls : Array Slot} {rest : List Value} (hC : Ctx p s m args RX8 D Y) (hb : c.code = cc) (hP : va_P D vwCl (wd Y E σ 0 LC) H) (hdg : decode cc pc = .ok (.getfield 39, 3)) (kk : W p l e R s m args below meth c H locs cells slots Q (F0 m (pc + 3) ls (.ref (E 4) :: rest))) : W p l e R s m args below meth c H locs cells slots Q (F0 m pc ls (.ref (E 0) :: rest)) :=
  x_getR hC hb hP inGX8 lc_0 rfl 5 (by decide) rfl (gw_t (tb2 (List.mem_of_getElem? (i := 83) rfl)) rfl) rfl hdg kk
theorem gf_X8_111 {p : Program} {l : Launch} {e : Env} {R : Room} {s : State} {m : MethodId} {args : Array Value} {below : List Frame} {meth : Method} {c : Code} {H : Heap} {locs : List Loc} {cells slots : Nat} {Q : State → Prop} {D : va_G} {Y : CYs} {E : Nat → Nat} {σ : Sta} {cc : ByteArray} {pc : Nat} {ls : Array Slot} {rest : List Value} (hC : Ctx p s m args RX8 D Y) (hb : c.code = cc) (hP : va_P D vwCl (wd Y E σ 0 LC) H) (hdg : decode cc pc = .ok (.getfield 111, 3)) (kk : W p l e R s m args below meth c H locs cells slots Q (F0 m (pc + 3) ls (.int (gI σ 262) :: rest))) : W p l e R s m args below meth c H locs cells slots Q (F0 m pc ls (.ref (E 4) :: rest)) :=
  x_getIN hC hb hP inGX1 lc_4 rfl 6 (by decide) rfl (List.mem_of_getElem? (i := 28) rfl) rfl hdg kk
theorem gf_X8_114 {p : Program} {l : Launch} {e : Env} {R : Room} {s : State} {m : MethodId} {args : Array Value} {below : List Frame} {meth : Method} {c : Code} {H : Heap} {locs : List Loc} {cells slots : Nat} {Q : State → Prop} {D : va_G} {Y : CYs} {E : Nat → Nat} {σ : Sta} {cc : ByteArray} {pc : Nat} {ls : Array Slot} {rest : List Value} (hC : Ctx p s m args RX8 D Y) (hb : c.code = cc) (hP : va_P D vwCl (wd Y E σ 0 LC) H) (hdg : decode cc pc = .ok (.getfield 114, 3)) (kk : W p l e R s m args below meth c H locs cells slots Q (F0 m (pc + 3) ls (.int (gI σ 263) :: rest))) : W p l e R s m args below meth c H locs cells slots Q (F0 m pc ls (.ref (E 4) :: rest)) :=
  x_getIN hC hb hP inGX1 lc_4 rfl 7 (by decide) rfl (List.mem_of_getElem? (i := 29) rfl) rfl hdg kk
theorem pf_X8_78 {p : Program} {l : Launch} {e : Env} {R : Room} {s : State} {m : MethodId} {args : Array Value} {below : List Frame} {meth : Method} {c : Code} {H : Heap} {locs : List Loc} {cells slots : Nat} {Q : State → Prop} {D : va_G} {Y : CYs} {E : Nat → Nat} {σ : Sta} {cc : ByteArray} {pc : Nat} {ls : Array Slot} {rest : List Value} {A : Nat → Prop} {H0 : Heap} {x : Int32} (hC : Ctx p s m args RX8 D Y) (hb : c.code = cc) (hP : va_P D vwCl (wd Y E σ 0 LC) H) (hD : ∀ τ, va_D A (wd Y E τ 0 LC)) (hS : va_S A H0 H locs) (hdg : decode cc pc = .ok (.putfield 78, 3)) (kk : ∀ (H1 : Heap) (locs1 : List Loc) (τ : Sta), τ = sI σ 12 x → va_P D vwCl (wd Y E τ 0 LC) H1 → va_S A H0 H1 locs1 → W p l e R s m args below meth c H1 locs1 cells slots Q (F0 m (pc + 3) ls rest)) : W p l e R s m args below meth c H locs cells slots Q (F0 m pc ls (.int x :: .ref (E 0) :: rest)) :=
  x_putI lokC hC hb hP hD hS inGX8 tyX8 tyX8_ok nmX8 lc_0 rfl 12 (by decide) rfl (gw_t (tb2 (List.mem_of_getElem? (i := 90) rfl)) rfl) rfl rfl rfl rfl rfl hdg kk
theorem cw_X8_115 {R : Room} {p : Program} {s : State} {m : MethodId} {args : Array Value} {D : va_G} {Y : CYs} {rm : Room} (hC : Ctx p s m args RX8 D Y) (hrc : rm.cells = 0) (hrs : rm.slots = 0) (hR : rm.frames + 1 ≤ R.frames ∧ 8 + (2 + 11) + rm.locals ≤ R.locals) : CallW R s args RX8 RX5 115 yX5_explore cX5_explore 2 (some .int) (Cond.code yX5_explore cX5_explore 2 (some .int) :: gW) rm 0 0 0 :=
  cwV 0 hC.2.1 (gi_V (gw_t (tb6 (List.mem_of_getElem? (i := 92) rfl)) rfl) (gw_t (tb6 (List.mem_of_getElem? (i := 93) rfl)) rfl) (gw_t (tb6 (List.mem_of_getElem? (i := 94) rfl)) rfl) (gw_t (tb1 (List.mem_of_getElem? (i := 6) rfl)) rfl) (gw_t (tb6 (List.mem_of_getElem? (i := 95) rfl)) rfl)) rfl hrc hrs ⟨rfl, by decide +kernel, by decide +kernel, by decide +kernel⟩ hR
theorem gf_X8_119 {p : Program} {l : Launch} {e : Env} {R : Room} {s : State} {m : MethodId} {args : Array Value} {below : List Frame} {meth : Method} {c : Code} {H : Heap} {locs : List Loc} {cells slots : Nat} {Q : State → Prop} {D : va_G} {Y : CYs} {E : Nat → Nat} {σ : Sta} {cc : ByteArray} {pc : Nat} {ls : Array Slot} {rest : List Value} (hC : Ctx p s m args RX8 D Y) (hb : c.code = cc) (hP : va_P D vwCl (wd Y E σ 0 LC) H) (hdg : decode cc pc = .ok (.getfield 119, 3)) (kk : W p l e R s m args below meth c H locs cells slots Q (F0 m (pc + 3) ls (.int (gI σ 330) :: rest))) : W p l e R s m args below meth c H locs cells slots Q (F0 m pc ls (.ref (E 5) :: rest)) :=
  x_getIN hC hb hP inGX5 lc_5 rfl 10 (by decide) rfl (List.mem_of_getElem? (i := 35) rfl) rfl hdg kk
theorem cw_X8_100 {R : Room} {p : Program} {s : State} {m : MethodId} {args : Array Value} {D : va_G} {Y : CYs} {rm : Room} (hC : Ctx p s m args RX8 D Y) (hrc : rm.cells = 0) (hrs : rm.slots = 0) (hR : rm.frames + 1 ≤ R.frames ∧ 8 + (1 + 11) + rm.locals ≤ R.locals) : CallW R s args RX8 RX8 100 yX8_forgetProgram cX8_forgetProgram 1 none (Cond.code yX8_forgetProgram cX8_forgetProgram 1 none :: gW) rm 0 0 0 :=
  cwV 0 hC.2.1 (gi_V (gw_t (tb5 (List.mem_of_getElem? (i := 61) rfl)) rfl) (gw_t (tb5 (List.mem_of_getElem? (i := 63) rfl)) rfl) (gw_s (q := (⟨"MarkovBench", "forgetProgram", "()V"⟩, 14)) (lp2_ (List.mem_of_getElem? (i := 3) rfl))) (gw_t (tb1 (List.mem_of_getElem? (i := 1) rfl)) rfl) (gw_t (tb5 (List.mem_of_getElem? (i := 64) rfl)) rfl)) rfl hrc hrs ⟨rfl, by decide +kernel, by decide +kernel, by decide +kernel⟩ hR
theorem gf_X8_16 {p : Program} {l : Launch} {e : Env} {R : Room} {s : State} {m : MethodId} {args : Array Value} {below : List Frame} {meth : Method} {c : Code} {H : Heap} {locs : List Loc} {cells slots : Nat} {Q : State → Prop} {D : va_G} {Y : CYs} {E : Nat → Nat} {σ : Sta} {cc : ByteArray} {pc : Nat} {ls : Array Slot} {rest : List Value} (hC : Ctx p s m args RX8 D Y) (hb : c.code = cc) (hP : va_P D vwCl (wd Y E σ 0 LC) H) (hdg : decode cc pc = .ok (.getfield 16, 3)) (kk : W p l e R s m args below meth c H locs cells slots Q (F0 m (pc + 3) ls (.ref (E 1) :: rest))) : W p l e R s m args below meth c H locs cells slots Q (F0 m pc ls (.ref (E 0) :: rest)) :=
  x_getR hC hb hP inGX8 lc_0 rfl 2 (by decide) rfl (gw_t (tb2 (List.mem_of_getElem? (i := 80) rfl)) rfl) rfl hdg kk
theorem cw_X8_103 {R : Room} {p : Program} {s : State} {m : MethodId} {args : Array Value} {D : va_G} {Y : CYs} {rm : Room} (hC : Ctx p s m args RX8 D Y) (hrc : rm.cells = 0) (hrs : rm.slots = 0) (hR : rm.frames + 1 ≤ R.frames ∧ 8 + (5 + 11) + rm.locals ≤ R.locals) : CallW R s args RX8 RX7 103 yX7_read cX7_read 5 none (Cond.code yX7_read cX7_read 5 none :: gW) rm 0 0 2 :=
  cwV 2 hC.2.1 (gi_V (gw_t (tb5 (List.mem_of_getElem? (i := 81) rfl)) rfl) (gw_t (tb5 (List.mem_of_getElem? (i := 82) rfl)) rfl) (gw_t (tb5 (List.mem_of_getElem? (i := 83) rfl)) rfl) (gw_t (tb1 (List.mem_of_getElem? (i := 2) rfl)) rfl) (gw_t (tb5 (List.mem_of_getElem? (i := 84) rfl)) rfl)) rfl hrc hrs ⟨rfl, by decide +kernel, by decide +kernel, by decide +kernel⟩ hR
theorem cw_X8_107 {R : Room} {p : Program} {s : State} {m : MethodId} {args : Array Value} {D : va_G} {Y : CYs} {rm : Room} (hC : Ctx p s m args RX8 D Y) (hrc : rm.cells = 0) (hrs : rm.slots = 0) (hR : rm.frames + 1 ≤ R.frames ∧ 8 + (3 + 11) + rm.locals ≤ R.locals) : CallW R s args RX8 RX1 107 yX1_readProgram cX1_readProgram 3 none (Cond.code yX1_readProgram cX1_readProgram 3 none :: gW) rm 0 0 1 :=
  cwV 1 hC.2.1 (gi_V (gw_t (tb5 (List.mem_of_getElem? (i := 169) rfl)) rfl) (gw_t (tb5 (List.mem_of_getElem? (i := 170) rfl)) rfl) (gw_t (tb5 (List.mem_of_getElem? (i := 171) rfl)) rfl) (gw_t (tb1 (List.mem_of_getElem? (i := 5) rfl)) rfl) (gw_t (tb5 (List.mem_of_getElem? (i := 172) rfl)) rfl)) rfl hrc hrs ⟨rfl, by decide +kernel, by decide +kernel, by decide +kernel⟩ hR
theorem gf_X8_120 {p : Program} {l : Launch} {e : Env} {R : Room} {s : State} {m : MethodId} {args : Array Value} {below : List Frame} {meth : Method} {c : Code} {H : Heap} {locs : List Loc} {cells slots : Nat} {Q : State → Prop} {D : va_G} {Y : CYs} {E : Nat → Nat} {σ : Sta} {cc : ByteArray} {pc : Nat} {ls : Array Slot} {rest : List Value} (hC : Ctx p s m args RX8 D Y) (hb : c.code = cc) (hP : va_P D vwCl (wd Y E σ 0 LC) H) (hdg : decode cc pc = .ok (.getfield 120, 3)) (kk : W p l e R s m args below meth c H locs cells slots Q (F0 m (pc + 3) ls (.int (gI σ 192) :: rest))) : W p l e R s m args below meth c H locs cells slots Q (F0 m pc ls (.ref (E 3) :: rest)) :=
  x_getIN hC hb hP inGX4 lc_3 rfl 0 (by decide) rfl (List.mem_of_getElem? (i := 7) rfl) rfl hdg kk
theorem gf_X8_123 {p : Program} {l : Launch} {e : Env} {R : Room} {s : State} {m : MethodId} {args : Array Value} {below : List Frame} {meth : Method} {c : Code} {H : Heap} {locs : List Loc} {cells slots : Nat} {Q : State → Prop} {D : va_G} {Y : CYs} {E : Nat → Nat} {σ : Sta} {cc : ByteArray} {pc : Nat} {ls : Array Slot} {rest : List Value} (hC : Ctx p s m args RX8 D Y) (hb : c.code = cc) (hP : va_P D vwCl (wd Y E σ 0 LC) H) (hdg : decode cc pc = .ok (.getfield 123, 3)) (kk : W p l e R s m args below meth c H locs cells slots Q (F0 m (pc + 3) ls (.int (gI σ 197) :: rest))) : W p l e R s m args below meth c H locs cells slots Q (F0 m pc ls (.ref (E 3) :: rest)) :=
  x_getIN hC hb hP inGX4 lc_3 rfl 5 (by decide) rfl (List.mem_of_getElem? (i := 14) rfl) rfl hdg kk
theorem gf_X8_126 {p : Program} {l : Launch} {e : Env} {R : Room} {s : State} {m : MethodId} {args : Array Value} {below : List Frame} {meth : Method} {c : Code} {H : Heap} {locs : List Loc} {cells slots : Nat} {Q : State → Prop} {D : va_G} {Y : CYs} {E : Nat → Nat} {σ : Sta} {cc : ByteArray} {pc : Nat} {ls : Array Slot} {rest : List Value} (hC : Ctx p s m args RX8 D Y) (hb : c.code = cc) (hP : va_P D vwCl (wd Y E σ 0 LC) H) (hdg : decode cc pc = .ok (.getfield 126, 3)) (kk : W p l e R s m args below meth c H locs cells slots Q (F0 m (pc + 3) ls (.int (gI σ 202) :: rest))) : W p l e R s m args below meth c H locs cells slots Q (F0 m pc ls (.ref (E 3) :: rest)) :=
  x_getIN hC hb hP inGX4 lc_3 rfl 10 (by decide) rfl (List.mem_of_getElem? (i := 21) rfl) rfl hdg kk
theorem gf_X8_129 {p : Program} {l : Launch} {e : Env} {R : Room} {s : State} {m : MethodId} {args : Array Value} {below : List Frame} {meth : Method} {c : Code} {H : Heap} {locs : List Loc} {cells slots : Nat} {Q : State → Prop} {D : va_G} {Y : CYs} {E : Nat → Nat} {σ : Sta} {cc : ByteArray} {pc : Nat} {ls : Array Slot} {rest : List Value} (hC : Ctx p s m args RX8 D Y) (hb : c.code = cc) (hP : va_P D vwCl (wd Y E σ 0 LC) H) (hdg : decode cc pc = .ok (.getfield 129, 3)) (kk : W p l e R s m args below meth c H locs cells slots Q (F0 m (pc + 3) ls (.int (gI σ 322) :: rest))) : W p l e R s m args below meth c H locs cells slots Q (F0 m pc ls (.ref (E 5) :: rest)) :=
  x_getIN hC hb hP inGX5 lc_5 rfl 2 (by decide) rfl (List.mem_of_getElem? (i := 32) rfl) rfl hdg kk
theorem gf_X8_132 {p : Program} {l : Launch} {e : Env} {R : Room} {s : State} {m : MethodId} {args : Array Value} {below : List Frame} {meth : Method} {c : Code} {H : Heap} {locs : List Loc} {cells slots : Nat} {Q : State → Prop} {D : va_G} {Y : CYs} {E : Nat → Nat} {σ : Sta} {cc : ByteArray} {pc : Nat} {ls : Array Slot} {rest : List Value} (hC : Ctx p s m args RX8 D Y) (hb : c.code = cc) (hP : va_P D vwCl (wd Y E σ 0 LC) H) (hdg : decode cc pc = .ok (.getfield 132, 3)) (kk : W p l e R s m args below meth c H locs cells slots Q (F0 m (pc + 3) ls (.int (gI σ 11) :: rest))) : W p l e R s m args below meth c H locs cells slots Q (F0 m pc ls (.ref (E 0) :: rest)) :=
  x_getI hC hb hP inGX8 lc_0 rfl 11 (by decide) rfl (gw_t (tb2 (List.mem_of_getElem? (i := 89) rfl)) rfl) rfl hdg kk
theorem cw_X8_157 {R : Room} {p : Program} {s : State} {m : MethodId} {args : Array Value} {D : va_G} {Y : CYs} {rm : Room} (hC : Ctx p s m args RX8 D Y) (hrc : rm.cells = 0) (hrs : rm.slots = 0) (hR : rm.frames + 1 ≤ R.frames ∧ 8 + (3 + 11) + rm.locals ≤ R.locals) : CallW R s args RX8 RX8 157 yX8_checkIndex cX8_checkIndex 3 none (Cond.code yX8_checkIndex cX8_checkIndex 3 none :: gW) rm 0 0 2 :=
  cwV 2 hC.2.1 (gi_V (gw_t (tb2 (List.mem_of_getElem? (i := 200) rfl)) rfl) (gw_t (tb2 (List.mem_of_getElem? (i := 202) rfl)) rfl) (gw_s (q := (⟨"MarkovBench", "checkIndex", "(II)V"⟩, 14)) (lp1_ (List.mem_of_getElem? (i := 2) rfl))) (gw_t (tb1 (List.mem_of_getElem? (i := 1) rfl)) rfl) (gw_t (tb2 (List.mem_of_getElem? (i := 203) rfl)) rfl)) rfl hrc hrs ⟨rfl, by decide +kernel, by decide +kernel, by decide +kernel⟩ hR
theorem cw_X8_140 {R : Room} {p : Program} {s : State} {m : MethodId} {args : Array Value} {D : va_G} {Y : CYs} {rm : Room} (hC : Ctx p s m args RX8 D Y) (hrc : rm.cells = 0) (hrs : rm.slots = 0) (hR : rm.frames + 1 ≤ R.frames ∧ 8 + (2 + 11) + rm.locals ≤ R.locals) : CallW R s args RX8 RX8 140 yX8_checkState cX8_checkState 2 none (Cond.code yX8_checkState cX8_checkState 2 none :: gW) rm 0 0 1 :=
  cwV 1 hC.2.1 (gi_V (gw_t (tb2 (List.mem_of_getElem? (i := 196) rfl)) rfl) (gw_t (tb2 (List.mem_of_getElem? (i := 198) rfl)) rfl) (gw_s (q := (⟨"MarkovBench", "checkState", "(I)V"⟩, 14)) (lp1_ (List.mem_of_getElem? (i := 1) rfl))) (gw_t (tb1 (List.mem_of_getElem? (i := 1) rfl)) rfl) (gw_t (tb2 (List.mem_of_getElem? (i := 199) rfl)) rfl)) rfl hrc hrs ⟨rfl, by decide +kernel, by decide +kernel, by decide +kernel⟩ hR
theorem gf_X8_165 {p : Program} {l : Launch} {e : Env} {R : Room} {s : State} {m : MethodId} {args : Array Value} {below : List Frame} {meth : Method} {c : Code} {H : Heap} {locs : List Loc} {cells slots : Nat} {Q : State → Prop} {D : va_G} {Y : CYs} {E : Nat → Nat} {σ : Sta} {cc : ByteArray} {pc : Nat} {ls : Array Slot} {rest : List Value} (hC : Ctx p s m args RX8 D Y) (hb : c.code = cc) (hP : va_P D vwCl (wd Y E σ 0 LC) H) (hdg : decode cc pc = .ok (.getfield 165, 3)) (kk : W p l e R s m args below meth c H locs cells slots Q (F0 m (pc + 3) ls (.ref (E 33) :: rest))) : W p l e R s m args below meth c H locs cells slots Q (F0 m pc ls (.ref (E 5) :: rest)) :=
  x_getRN hC hb hP inGX5 lc_5 rfl 4 (by decide) rfl (List.mem_of_getElem? (i := 34) rfl) rfl hdg kk
theorem cw_X8_168 {R : Room} {p : Program} {s : State} {m : MethodId} {args : Array Value} {D : va_G} {Y : CYs} {rm : Room} (hC : Ctx p s m args RX8 D Y) (hrc : rm.cells = 0) (hrs : rm.slots = 0) (hR : rm.frames + 1 ≤ R.frames ∧ 8 + (3 + 11) + rm.locals ≤ R.locals) : CallW R s args RX8 RX8 168 yX8_checkChoice cX8_checkChoice 3 none (Cond.code yX8_checkChoice cX8_checkChoice 3 none :: gW) rm 0 0 2 :=
  cwV 2 hC.2.1 (gi_V (gw_t (tb2 (List.mem_of_getElem? (i := 209) rfl)) rfl) (gw_t (tb2 (List.mem_of_getElem? (i := 211) rfl)) rfl) (gw_s (q := (⟨"MarkovBench", "checkChoice", "(II)V"⟩, 14)) (lp1_ (List.mem_of_getElem? (i := 3) rfl))) (gw_t (tb1 (List.mem_of_getElem? (i := 1) rfl)) rfl) (gw_t (tb2 (List.mem_of_getElem? (i := 212) rfl)) rfl)) rfl hrc hrs ⟨rfl, by decide +kernel, by decide +kernel, by decide +kernel⟩ hR
theorem cw_X8_175 {R : Room} {p : Program} {s : State} {m : MethodId} {args : Array Value} {D : va_G} {Y : CYs} {rm : Room} (hC : Ctx p s m args RX8 D Y) (hrc : rm.cells = 0) (hrs : rm.slots = 0) (hR : rm.frames + 1 ≤ R.frames ∧ 8 + (3 + 11) + rm.locals ≤ R.locals) : CallW R s args RX8 RX5 175 yX5_branchesOf cX5_branchesOf 3 (some .int) (Cond.code yX5_branchesOf cX5_branchesOf 3 (some .int) :: gW) rm 0 0 2 :=
  cwV 2 hC.2.1 (gi_V (gw_t (tb2 (List.mem_of_getElem? (i := 220) rfl)) rfl) (gw_t (tb2 (List.mem_of_getElem? (i := 221) rfl)) rfl) (gw_t (tb2 (List.mem_of_getElem? (i := 222) rfl)) rfl) (gw_t (tb1 (List.mem_of_getElem? (i := 6) rfl)) rfl) (gw_t (tb2 (List.mem_of_getElem? (i := 223) rfl)) rfl)) rfl hrc hrs ⟨rfl, by decide +kernel, by decide +kernel, by decide +kernel⟩ hR
theorem cw_X8_171 {R : Room} {p : Program} {s : State} {m : MethodId} {args : Array Value} {D : va_G} {Y : CYs} {rm : Room} (hC : Ctx p s m args RX8 D Y) (hrc : rm.cells = 0) (hrs : rm.slots = 0) (hR : rm.frames + 1 ≤ R.frames ∧ 8 + (3 + 11) + rm.locals ≤ R.locals) : CallW R s args RX8 RX5 171 yX5_commandOf cX5_commandOf 3 (some .int) (Cond.code yX5_commandOf cX5_commandOf 3 (some .int) :: gW) rm 0 0 2 :=
  cwV 2 hC.2.1 (gi_V (gw_t (tb2 (List.mem_of_getElem? (i := 213) rfl)) rfl) (gw_t (tb2 (List.mem_of_getElem? (i := 214) rfl)) rfl) (gw_t (tb2 (List.mem_of_getElem? (i := 215) rfl)) rfl) (gw_t (tb1 (List.mem_of_getElem? (i := 6) rfl)) rfl) (gw_t (tb2 (List.mem_of_getElem? (i := 216) rfl)) rfl)) rfl hrc hrs ⟨rfl, by decide +kernel, by decide +kernel, by decide +kernel⟩ hR
abbrev rm_X8_append : Room := { frames := 0, cells := 0, slots := 0, locals := 0 }
def f_X8_append_43 (k3 : Int32 → Int32 → Sta → Option (Unit × Sta)) (v1 : Int32) (v2 : Int32) (σ : Sta) : Option (Unit × Sta) :=
  lt (v2 + (-8)) (fun x1 =>
  k3 v1 x1 σ)
set_option maxHeartbeats 4000000 in
set_option maxRecDepth 100000 in
theorem t_X8_append_43 {l : Launch} {D : va_G} {Y : CYs} {E : Nat → Nat} {p : Program} {e : Env} {s : State} {m : MethodId} {args : Array Value} {below : List Frame} {meth : Method} {c : Code} (hF : Fr p s m args meth c RX8 cX8_append 3 none D Y E LC) {o : Unit × Sta} (k3 : Int32 → Int32 → Sta → Option (Unit × Sta)) (hk3 : ∀ (v1 : Int32) (v2 : Int32) (σ : Sta) (H : Heap) (locs : List Loc) (ls : Array Slot), k3 v1 v2 σ = some o → va_P D vwCl (wd Y E σ 0 LC) H → va_S (AF E LC.length s.heap.size) s.heap H locs → lv_has ls 3 [(0, .ref (E 0)), (1, .int v1), (2, .int v2)] → WV p l e rm_X8_append s m args below meth c LC Y D E o H locs (F0 m 3 ls [])) : ∀ (v1 : Int32) (v2 : Int32) (σ : Sta) (H : Heap) (locs : List Loc) (ls : Array Slot), f_X8_append_43 k3 v1 v2 σ = some o → va_P D vwCl (wd Y E σ 0 LC) H → va_S (AF E LC.length s.heap.size) s.heap H locs → lv_has ls 3 [(0, .ref (E 0)), (1, .int v1), (2, .int v2)] → WV p l e rm_X8_append s m args below meth c LC Y D E o H locs (F0 m 43 ls []) := by
  intro v1 v2 σ H locs ls h hP hS hl
  unfold f_X8_append_43 at h
  obtain ⟨hC, hb, hml, hr, hlk, hD, hSW⟩ := id hF
  have hx := hC.1
  obtain ⟨x1, ex1⟩ : ∃ y : Int32, y = v2 + (-8) := ⟨_, rfl⟩
  have h := of_lt h ex1
  refine lv_iinc (v := x1) (lv' := [(2, .int x1), (0, .ref (E 0)), (1, .int v1)]) hx hb dX8_append_43 hl (k := 2) rfl (by rw [ex1]; rfl) (by decide) rfl (fun ls hl => ?_)
  refine lv_goto (tgt := 3) hx hb dX8_append_46 (by decide) ?_
  exact hk3 v1 x1 σ _ _ _ h hP hS (lv_sub hl [1, 2, 0] rfl)

def f_X8_append_3 : Nat → Int32 → Int32 → Sta → Option (Unit × Sta)
  | 0, _, _, _ => none
  | n + 1, v1, v2, σ => if v2 < 0 then
      some ((), σ)
    else
      if 1500 ≤ gI σ 1 then
        f_X8_append_43 (f_X8_append_3 n) v1 v2 σ
      else
        if gI σ 1 < 0 ∨ 1500 ≤ ((gI σ 1).toNatClampNeg) then none else (
        lt (sA σ 8 (upd (gA σ 8) ((gI σ 1).toNatClampNeg) (((v1.toUInt32 >>> (v2.toUInt32 &&& Int32.toUInt32 31)).toInt32) &&& 255))) (fun σ4 =>
        lt (sI σ4 1 ((gI σ4 1) + 1)) (fun σ5 =>
        f_X8_append_43 (f_X8_append_3 n) v1 v2 σ5)))
set_option maxHeartbeats 4000000 in
set_option maxRecDepth 100000 in
theorem t_X8_append_3 {l : Launch} {D : va_G} {Y : CYs} {E : Nat → Nat} {p : Program} {e : Env} {s : State} {m : MethodId} {args : Array Value} {below : List Frame} {meth : Method} {c : Code} (hF : Fr p s m args meth c RX8 cX8_append 3 none D Y E LC) {o : Unit × Sta} : ∀ (n : Nat) (v1 : Int32) (v2 : Int32) (σ : Sta) (H : Heap) (locs : List Loc) (ls : Array Slot), f_X8_append_3 n v1 v2 σ = some o → va_P D vwCl (wd Y E σ 0 LC) H → va_S (AF E LC.length s.heap.size) s.heap H locs → lv_has ls 3 [(0, .ref (E 0)), (1, .int v1), (2, .int v2)] → WV p l e rm_X8_append s m args below meth c LC Y D E o H locs (F0 m 3 ls []) := by
  intro n
  induction n with
  | zero =>
    intro v1 v2 σ H locs ls h hP hS hl
    exact nomatch (show (none : Option (Unit × Sta)) = some o from h)
  | succ n ih =>
    intro v1 v2 σ H locs ls h hP hS hl
    rw [f_X8_append_3] at h
    obtain ⟨hC, hb, hml, hr, hlk, hD, hSW⟩ := id hF
    have hx := hC.1
    refine lv_iload_n hx hb dX8_append_3 rfl (lv_at hl 2 rfl) ?_
    refine lv_if_lt (tgt := 49) hx hb dX8_append_4 (by decide) (fun c1 => ?_) (fun c1 => ?_)
    · have h := of_t h c1
      exact x_vret hF hP hS h dX8_append_49
    · have h := of_f h c1
      refine lv_aload_n hx hb dX8_append_7 rfl (lv_at hl 0 rfl) ?_
      refine gf_X8_82 hC hb hP dX8_append_8 ?_
      refine lv_sipush (v := 1500) hx hb dX8_append_11 (by decide) ?_
      refine lv_icmp_ge (tgt := 43) hx hb dX8_append_14 (by decide) (fun c2 => ?_) (fun c2 => ?_)
      · have h := of_t h c2
        exact t_X8_append_43  hF (f_X8_append_3 n) ih v1 v2 σ _ _ _ h hP hS (lv_sub hl [0, 1, 2] rfl)
      · have h := of_f h c2
        refine lv_aload_n hx hb dX8_append_17 rfl (lv_at hl 0 rfl) ?_
        refine gf_X8_9 hC hb hP dX8_append_18 ?_
        refine lv_aload_n hx hb dX8_append_21 rfl (lv_at hl 0 rfl) ?_
        refine gf_X8_82 hC hb hP dX8_append_22 ?_
        refine lv_iload_n hx hb dX8_append_25 rfl (lv_at hl 1 rfl) ?_
        refine lv_iload_n hx hb dX8_append_26 rfl (lv_at hl 2 rfl) ?_
        refine lv_iushr (v := (v1.toUInt32 >>> (v2.toUInt32 &&& Int32.toUInt32 31)).toInt32) hx hb dX8_append_27 rfl ?_
        refine lv_sipush (v := 255) hx hb dX8_append_28 (by decide) ?_
        refine lv_iand hx hb dX8_append_31 ?_
        obtain ⟨g3, h⟩ := of_gd h
        refine x_iast lokC hC hb hP hD hS lc_8 g3 dX8_append_32 (fun H locs σ4 eσ4 hP hS => ?_)
        have h := of_lt h eσ4
        refine lv_aload_n hx hb dX8_append_33 rfl (lv_at hl 0 rfl) ?_
        refine lv_dup hx hb dX8_append_34 rfl ?_
        refine gf_X8_82 hC hb hP dX8_append_35 ?_
        refine lv_iconst (v := 1) hx hb dX8_append_38 (by decide) ?_
        refine lv_iadd hx hb dX8_append_39 ?_
        refine pf_X8_82 hC hb hP hD hS dX8_append_40 (fun H locs σ5 eσ5 hP hS => ?_)
        have h := of_lt h eσ5
        exact t_X8_append_43  hF (f_X8_append_3 n) ih v1 v2 σ5 _ _ _ h hP hS (lv_sub hl [0, 1, 2] rfl)

def f_X8_append (a1 : Int32) (σ : Sta) : Option (Unit × Sta) :=
  f_X8_append_3 FU a1 24 σ
set_option maxHeartbeats 4000000 in
set_option maxRecDepth 100000 in
theorem c_X8_append {l : Launch} {D : va_G} {Y : CYs} {E : Nat → Nat} {a1 : Int32} {σ : Sta} {o : Unit × Sta} (h : f_X8_append a1 σ = some o) : MV l yX8_append (Cond.code yX8_append cX8_append 3 none :: gW) rm_X8_append LC Y D E [.ref (E 0), .int a1] σ o := by
  intro sz
  refine Met_of (Qc := fun sz => QV LC Y D E sz o) (by decide) (Nat.le_of_ble_eq_true rfl) (fun p e s m args below meth c hF hP ls hl => ?_) sz
  have hS : va_S (AF E LC.length s.heap.size) s.heap s.heap [] := va_S.rf
  have hl : lv_has ls 3 [(0, .ref (E 0)), (1, .int a1)] := hl
  show WV p l e rm_X8_append s m args below meth c LC Y D E o s.heap [] (F0 m 0 ls [])
  unfold f_X8_append at h
  obtain ⟨hC, hb, hml, hr, hlk, hD, hSW⟩ := id hF
  have hx := hC.1
  refine lv_bipush (v := 24) hx hb dX8_append_0 (by decide) ?_
  refine lv_istore_n (lv' := [(2, .int 24), (0, .ref (E 0)), (1, .int a1)]) hx hb dX8_append_2 rfl hl (by decide) rfl (fun ls hl => ?_)
  exact t_X8_append_3  hF FU a1 24 σ _ _ _ h hP hS (lv_sub hl [1, 2, 0] rfl)

abbrev rm_X8_feed : Room := { frames := 1, cells := 0, slots := 0, locals := 22 }
def f_X8_feed (a1 : Int32) (a2 : Int32) (a3 : Int32) (a4 : Int32) (a5 : Int32) (σ : Sta) : Option (Int32 × Sta) :=
  if gI σ 1 ≤ 1480 then
    bnd (f_X8_append a1 σ) (fun _ σ3 =>
    bnd (f_X8_append a2 σ3) (fun _ σ6 =>
    bnd (f_X8_append a3 σ6) (fun _ σ9 =>
    bnd (f_X8_append a4 σ9) (fun _ σ12 =>
    bnd (f_X8_append a5 σ12) (fun _ σ15 =>
    some (gI σ15 1, σ15))))))
  else
    none
set_option maxHeartbeats 4000000 in
set_option maxRecDepth 100000 in
theorem c_X8_feed {l : Launch} {D : va_G} {Y : CYs} {E : Nat → Nat} {a1 : Int32} {a2 : Int32} {a3 : Int32} {a4 : Int32} {a5 : Int32} {σ : Sta} {o : Int32 × Sta} (h : f_X8_feed a1 a2 a3 a4 a5 σ = some o) : MI l yX8_feed (Cond.code yX8_feed cX8_feed 6 (some .int) :: gW) rm_X8_feed LC Y D E [.ref (E 0), .int a1, .int a2, .int a3, .int a4, .int a5] σ o := by
  intro sz
  refine Met_of (Qc := fun sz => QI LC Y D E sz o) (by decide) (Nat.le_of_ble_eq_true rfl) (fun p e s m args below meth c hF hP ls hl => ?_) sz
  have hS : va_S (AF E LC.length s.heap.size) s.heap s.heap [] := va_S.rf
  have hl : lv_has ls 6 [(0, .ref (E 0)), (1, .int a1), (2, .int a2), (3, .int a3), (4, .int a4), (5, .int a5)] := hl
  show WI p l e rm_X8_feed s m args below meth c LC Y D E o s.heap [] (F0 m 0 ls [])
  unfold f_X8_feed at h
  obtain ⟨hC, hb, hml, hr, hlk, hD, hSW⟩ := id hF
  have hx := hC.1
  refine lv_aload_n hx hb dX8_feed_0 rfl (lv_at hl 0 rfl) ?_
  refine gf_X8_82 hC hb hP dX8_feed_1 ?_
  refine lv_sipush (v := 1480) hx hb dX8_feed_4 (by decide) ?_
  refine lv_icmp_le (tgt := 20) hx hb dX8_feed_7 (by decide) (fun c1 => ?_) (fun c1 => ?_)
  · have h := of_t h c1
    refine lv_aload_n hx hb dX8_feed_20 rfl (lv_at hl 0 rfl) ?_
    refine lv_iload_n hx hb dX8_feed_21 rfl (lv_at hl 1 rfl) ?_
    obtain ⟨r2, σ3, g4, h⟩ := of_bnd h
    refine x_VV (As := [.int a1]) (rest := []) hF hl hP hS (c_X8_append g4) (cw_X8_92 hC rfl rfl ⟨Nat.le_of_ble_eq_true rfl, Nat.le_of_ble_eq_true rfl⟩) lc_0 rfl rfl rfl (Nat.le_of_ble_eq_true rfl) dX8_feed_22 ⟨Nat.zero_le _, Nat.zero_le _⟩ (fun H locs hP hS => ?_)
    refine lv_aload_n hx hb dX8_feed_25 rfl (lv_at hl 0 rfl) ?_
    refine lv_iload_n hx hb dX8_feed_26 rfl (lv_at hl 2 rfl) ?_
    obtain ⟨r5, σ6, g7, h⟩ := of_bnd h
    refine x_VV (As := [.int a2]) (rest := []) hF hl hP hS (c_X8_append g7) (cw_X8_92 hC rfl rfl ⟨Nat.le_of_ble_eq_true rfl, Nat.le_of_ble_eq_true rfl⟩) lc_0 rfl rfl rfl (Nat.le_of_ble_eq_true rfl) dX8_feed_27 ⟨Nat.zero_le _, Nat.zero_le _⟩ (fun H locs hP hS => ?_)
    refine lv_aload_n hx hb dX8_feed_30 rfl (lv_at hl 0 rfl) ?_
    refine lv_iload_n hx hb dX8_feed_31 rfl (lv_at hl 3 rfl) ?_
    obtain ⟨r8, σ9, g10, h⟩ := of_bnd h
    refine x_VV (As := [.int a3]) (rest := []) hF hl hP hS (c_X8_append g10) (cw_X8_92 hC rfl rfl ⟨Nat.le_of_ble_eq_true rfl, Nat.le_of_ble_eq_true rfl⟩) lc_0 rfl rfl rfl (Nat.le_of_ble_eq_true rfl) dX8_feed_32 ⟨Nat.zero_le _, Nat.zero_le _⟩ (fun H locs hP hS => ?_)
    refine lv_aload_n hx hb dX8_feed_35 rfl (lv_at hl 0 rfl) ?_
    refine lv_iload hx hb dX8_feed_36 (lv_at hl 4 rfl) ?_
    obtain ⟨r11, σ12, g13, h⟩ := of_bnd h
    refine x_VV (As := [.int a4]) (rest := []) hF hl hP hS (c_X8_append g13) (cw_X8_92 hC rfl rfl ⟨Nat.le_of_ble_eq_true rfl, Nat.le_of_ble_eq_true rfl⟩) lc_0 rfl rfl rfl (Nat.le_of_ble_eq_true rfl) dX8_feed_38 ⟨Nat.zero_le _, Nat.zero_le _⟩ (fun H locs hP hS => ?_)
    refine lv_aload_n hx hb dX8_feed_41 rfl (lv_at hl 0 rfl) ?_
    refine lv_iload hx hb dX8_feed_42 (lv_at hl 5 rfl) ?_
    obtain ⟨r14, σ15, g16, h⟩ := of_bnd h
    refine x_VV (As := [.int a5]) (rest := []) hF hl hP hS (c_X8_append g16) (cw_X8_92 hC rfl rfl ⟨Nat.le_of_ble_eq_true rfl, Nat.le_of_ble_eq_true rfl⟩) lc_0 rfl rfl rfl (Nat.le_of_ble_eq_true rfl) dX8_feed_44 ⟨Nat.zero_le _, Nat.zero_le _⟩ (fun H locs hP hS => ?_)
    refine lv_aload_n hx hb dX8_feed_47 rfl (lv_at hl 0 rfl) ?_
    refine gf_X8_82 hC hb hP dX8_feed_48 ?_
    exact x_iret hF hP hS h dX8_feed_51
  · have h := of_f h c1
    exact nomatch h

abbrev rm_X8_checkRange : Room := { frames := 0, cells := 0, slots := 0, locals := 0 }
def f_X8_checkRange_10 (σ : Sta) : Option (Unit × Sta) :=
  none
set_option maxHeartbeats 4000000 in
set_option maxRecDepth 100000 in
theorem t_X8_checkRange_10 {l : Launch} {D : va_G} {Y : CYs} {E : Nat → Nat} {p : Program} {e : Env} {s : State} {m : MethodId} {args : Array Value} {below : List Frame} {meth : Method} {c : Code} (hF : Fr p s m args meth c RX8 cX8_checkRange 4 none D Y E LC) {o : Unit × Sta} : ∀ (σ : Sta) (H : Heap) (locs : List Loc) (ls : Array Slot), f_X8_checkRange_10 σ = some o → va_P D vwCl (wd Y E σ 0 LC) H → va_S (AF E LC.length s.heap.size) s.heap H locs → lv_has ls 4 [] → WV p l e rm_X8_checkRange s m args below meth c LC Y D E o H locs (F0 m 10 ls []) := by
  intro σ H locs ls h hP hS hl
  unfold f_X8_checkRange_10 at h
  obtain ⟨hC, hb, hml, hr, hlk, hD, hSW⟩ := id hF
  have hx := hC.1
  exact nomatch h

def f_X8_checkRange (a1 : Int32) (a2 : Int32) (a3 : Int32) (σ : Sta) : Option (Unit × Sta) :=
  if a1 < a2 then
    f_X8_checkRange_10 σ
  else
    if a1 ≤ a3 then
      some ((), σ)
    else
      f_X8_checkRange_10 σ
set_option maxHeartbeats 4000000 in
set_option maxRecDepth 100000 in
theorem c_X8_checkRange {l : Launch} {D : va_G} {Y : CYs} {E : Nat → Nat} {a1 : Int32} {a2 : Int32} {a3 : Int32} {σ : Sta} {o : Unit × Sta} (h : f_X8_checkRange a1 a2 a3 σ = some o) : MV l yX8_checkRange (Cond.code yX8_checkRange cX8_checkRange 4 none :: gW) rm_X8_checkRange LC Y D E [.ref (E 0), .int a1, .int a2, .int a3] σ o := by
  intro sz
  refine Met_of (Qc := fun sz => QV LC Y D E sz o) (by decide) (Nat.le_of_ble_eq_true rfl) (fun p e s m args below meth c hF hP ls hl => ?_) sz
  have hS : va_S (AF E LC.length s.heap.size) s.heap s.heap [] := va_S.rf
  have hl : lv_has ls 4 [(0, .ref (E 0)), (1, .int a1), (2, .int a2), (3, .int a3)] := hl
  show WV p l e rm_X8_checkRange s m args below meth c LC Y D E o s.heap [] (F0 m 0 ls [])
  unfold f_X8_checkRange at h
  obtain ⟨hC, hb, hml, hr, hlk, hD, hSW⟩ := id hF
  have hx := hC.1
  refine lv_iload_n hx hb dX8_checkRange_0 rfl (lv_at hl 1 rfl) ?_
  refine lv_iload_n hx hb dX8_checkRange_1 rfl (lv_at hl 2 rfl) ?_
  refine lv_icmp_lt (tgt := 10) hx hb dX8_checkRange_2 (by decide) (fun c1 => ?_) (fun c1 => ?_)
  · have h := of_t h c1
    exact t_X8_checkRange_10  hF σ _ _ _ h hP hS (lv_sub hl [] rfl)
  · have h := of_f h c1
    refine lv_iload_n hx hb dX8_checkRange_5 rfl (lv_at hl 1 rfl) ?_
    refine lv_iload_n hx hb dX8_checkRange_6 rfl (lv_at hl 3 rfl) ?_
    refine lv_icmp_le (tgt := 21) hx hb dX8_checkRange_7 (by decide) (fun c2 => ?_) (fun c2 => ?_)
    · have h := of_t h c2
      exact x_vret hF hP hS h dX8_checkRange_21
    · have h := of_f h c2
      exact t_X8_checkRange_10  hF σ _ _ _ h hP hS (lv_sub hl [] rfl)

abbrev rm_X8_trim : Room := { frames := 1, cells := 0, slots := 0, locals := 23 }
def f_X8_trim (a1 : Int32) (σ : Sta) : Option (Int32 × Sta) :=
  bnd (f_X8_checkRange a1 0 (gI σ 1) σ) (fun _ σ2 =>
  lt (sI σ2 1 a1) (fun σ4 =>
  some (a1, σ4)))
set_option maxHeartbeats 4000000 in
set_option maxRecDepth 100000 in
theorem c_X8_trim {l : Launch} {D : va_G} {Y : CYs} {E : Nat → Nat} {a1 : Int32} {σ : Sta} {o : Int32 × Sta} (h : f_X8_trim a1 σ = some o) : MI l yX8_trim (Cond.code yX8_trim cX8_trim 2 (some .int) :: gW) rm_X8_trim LC Y D E [.ref (E 0), .int a1] σ o := by
  intro sz
  refine Met_of (Qc := fun sz => QI LC Y D E sz o) (by decide) (Nat.le_of_ble_eq_true rfl) (fun p e s m args below meth c hF hP ls hl => ?_) sz
  have hS : va_S (AF E LC.length s.heap.size) s.heap s.heap [] := va_S.rf
  have hl : lv_has ls 2 [(0, .ref (E 0)), (1, .int a1)] := hl
  show WI p l e rm_X8_trim s m args below meth c LC Y D E o s.heap [] (F0 m 0 ls [])
  unfold f_X8_trim at h
  obtain ⟨hC, hb, hml, hr, hlk, hD, hSW⟩ := id hF
  have hx := hC.1
  refine lv_aload_n hx hb dX8_trim_0 rfl (lv_at hl 0 rfl) ?_
  refine lv_iload_n hx hb dX8_trim_1 rfl (lv_at hl 1 rfl) ?_
  refine lv_iconst (v := 0) hx hb dX8_trim_2 (by decide) ?_
  refine lv_aload_n hx hb dX8_trim_3 rfl (lv_at hl 0 rfl) ?_
  refine gf_X8_82 hC hb hP dX8_trim_4 ?_
  obtain ⟨r1, σ2, g3, h⟩ := of_bnd h
  refine x_VV (As := [.int a1, .int 0, .int (gI σ 1)]) (rest := []) hF hl hP hS (c_X8_checkRange g3) (cw_X8_96 hC rfl rfl ⟨Nat.le_of_ble_eq_true rfl, Nat.le_of_ble_eq_true rfl⟩) lc_0 rfl rfl rfl (Nat.le_of_ble_eq_true rfl) dX8_trim_7 ⟨Nat.zero_le _, Nat.zero_le _⟩ (fun H locs hP hS => ?_)
  refine lv_aload_n hx hb dX8_trim_10 rfl (lv_at hl 0 rfl) ?_
  refine lv_iload_n hx hb dX8_trim_11 rfl (lv_at hl 1 rfl) ?_
  refine pf_X8_82 hC hb hP hD hS dX8_trim_12 (fun H locs σ4 eσ4 hP hS => ?_)
  have h := of_lt h eσ4
  refine lv_iload_n hx hb dX8_trim_15 rfl (lv_at hl 1 rfl) ?_
  exact x_iret hF hP hS h dX8_trim_16

abbrev rm_X8_forgetProgram : Room := { frames := 2, cells := 0, slots := 0, locals := 44 }
def f_X8_forgetProgram (σ : Sta) : Option (Unit × Sta) :=
  bnd (f_X4_clear σ) (fun _ σ2 =>
  bnd (f_X5_clear σ2) (fun _ σ5 =>
  bnd (f_X3_clear σ5) (fun _ σ8 =>
  lt (sI σ8 11 0) (fun σ10 =>
  bnd (f_J7_fill_53178 9 3 0 σ10) (fun _ σ12 =>
  some ((), σ12))))))
set_option maxHeartbeats 4000000 in
set_option maxRecDepth 100000 in
theorem c_X8_forgetProgram {l : Launch} {D : va_G} {Y : CYs} {E : Nat → Nat} {σ : Sta} {o : Unit × Sta} (h : f_X8_forgetProgram σ = some o) : MV l yX8_forgetProgram (Cond.code yX8_forgetProgram cX8_forgetProgram 1 none :: gW) rm_X8_forgetProgram LC Y D E [.ref (E 0)] σ o := by
  intro sz
  refine Met_of (Qc := fun sz => QV LC Y D E sz o) (by decide) (Nat.le_of_ble_eq_true rfl) (fun p e s m args below meth c hF hP ls hl => ?_) sz
  have hS : va_S (AF E LC.length s.heap.size) s.heap s.heap [] := va_S.rf
  have hl : lv_has ls 1 [(0, .ref (E 0))] := hl
  show WV p l e rm_X8_forgetProgram s m args below meth c LC Y D E o s.heap [] (F0 m 0 ls [])
  unfold f_X8_forgetProgram at h
  obtain ⟨hC, hb, hml, hr, hlk, hD, hSW⟩ := id hF
  have hx := hC.1
  refine lv_aload_n hx hb dX8_forgetProgram_0 rfl (lv_at hl 0 rfl) ?_
  refine gf_X8_30 hC hb hP dX8_forgetProgram_1 ?_
  obtain ⟨r1, σ2, g3, h⟩ := of_bnd h
  refine x_VV (As := []) (rest := []) hF hl hP hS (c_X4_clear g3) (cw_X8_272 hC rfl rfl ⟨Nat.le_of_ble_eq_true rfl, Nat.le_of_ble_eq_true rfl⟩) lc_3 rfl rfl rfl (Nat.le_of_ble_eq_true rfl) dX8_forgetProgram_4 ⟨Nat.zero_le _, Nat.zero_le _⟩ (fun H locs hP hS => ?_)
  refine lv_aload_n hx hb dX8_forgetProgram_7 rfl (lv_at hl 0 rfl) ?_
  refine gf_X8_48 hC hb hP dX8_forgetProgram_8 ?_
  obtain ⟨r4, σ5, g6, h⟩ := of_bnd h
  refine x_VV (As := []) (rest := []) hF hl hP hS (c_X5_clear g6) (cw_X8_275 hC rfl rfl ⟨Nat.le_of_ble_eq_true rfl, Nat.le_of_ble_eq_true rfl⟩) lc_5 rfl rfl rfl (Nat.le_of_ble_eq_true rfl) dX8_forgetProgram_11 ⟨Nat.zero_le _, Nat.zero_le _⟩ (fun H locs hP hS => ?_)
  refine lv_aload_n hx hb dX8_forgetProgram_14 rfl (lv_at hl 0 rfl) ?_
  refine gf_X8_64 hC hb hP dX8_forgetProgram_15 ?_
  obtain ⟨r7, σ8, g9, h⟩ := of_bnd h
  refine x_VV (As := []) (rest := []) hF hl hP hS (c_X3_clear g9) (cw_X8_276 hC rfl rfl ⟨Nat.le_of_ble_eq_true rfl, Nat.le_of_ble_eq_true rfl⟩) lc_7 rfl rfl rfl (Nat.le_of_ble_eq_true rfl) dX8_forgetProgram_18 ⟨Nat.zero_le _, Nat.zero_le _⟩ (fun H locs hP hS => ?_)
  refine lv_aload_n hx hb dX8_forgetProgram_21 rfl (lv_at hl 0 rfl) ?_
  refine lv_iconst (v := 0) hx hb dX8_forgetProgram_22 (by decide) ?_
  refine pf_X8_132 hC hb hP hD hS dX8_forgetProgram_23 (fun H locs σ10 eσ10 hP hS => ?_)
  have h := of_lt h eσ10
  refine lv_aload_n hx hb dX8_forgetProgram_26 rfl (lv_at hl 0 rfl) ?_
  refine gf_X8_68 hC hb hP dX8_forgetProgram_27 ?_
  refine lv_iconst (v := 0) hx hb dX8_forgetProgram_30 (by decide) ?_
  obtain ⟨r11, σ12, g13, h⟩ := of_bnd h
  refine x_SV (As := [.ref (E 9), .int 0]) (rest := []) hF hl hP hS (c_J7_fill_53178 lokC lc_9 g13) (cw_X8_232 hC rfl rfl ⟨Nat.le_of_ble_eq_true rfl, Nat.le_of_ble_eq_true rfl⟩) rfl rfl (Nat.le_of_ble_eq_true rfl) dX8_forgetProgram_31 ⟨Nat.zero_le _, Nat.zero_le _⟩ (fun H locs hP hS => ?_)
  exact x_vret hF hP hS h dX8_forgetProgram_34

abbrev rm_X8_compile : Room := { frames := 107, cells := 0, slots := 0, locals := 4165 }
def f_X8_compile_100 (v1 : Int32) (σ : Sta) : Option (Int32 × Sta) :=
  some (v1, σ)
set_option maxHeartbeats 4000000 in
set_option maxRecDepth 100000 in
theorem t_X8_compile_100 {l : Launch} {D : va_G} {Y : CYs} {E : Nat → Nat} {p : Program} {e : Env} {s : State} {m : MethodId} {args : Array Value} {below : List Frame} {meth : Method} {c : Code} (hF : Fr p s m args meth c RX8 cX8_compile 2 (some .int) D Y E LC) {o : Int32 × Sta} : ∀ (v1 : Int32) (σ : Sta) (H : Heap) (locs : List Loc) (ls : Array Slot), f_X8_compile_100 v1 σ = some o → va_P D vwCl (wd Y E σ 0 LC) H → va_S (AF E LC.length s.heap.size) s.heap H locs → lv_has ls 2 [(1, .int v1)] → WI p l e rm_X8_compile s m args below meth c LC Y D E o H locs (F0 m 100 ls []) := by
  intro v1 σ H locs ls h hP hS hl
  unfold f_X8_compile_100 at h
  obtain ⟨hC, hb, hml, hr, hlk, hD, hSW⟩ := id hF
  have hx := hC.1
  refine lv_iload_n hx hb dX8_compile_100 rfl (lv_at hl 0 rfl) ?_
  exact x_iret hF hP hS h dX8_compile_101

def f_X8_compile_92 (v1 : Int32) (σ : Sta) : Option (Int32 × Sta) :=
  if v1 = 0 then
    f_X8_compile_100 v1 σ
  else
    bnd (f_X8_forgetProgram σ) (fun _ σ3 =>
    f_X8_compile_100 v1 σ3)
set_option maxHeartbeats 4000000 in
set_option maxRecDepth 100000 in
theorem t_X8_compile_92 {l : Launch} {D : va_G} {Y : CYs} {E : Nat → Nat} {p : Program} {e : Env} {s : State} {m : MethodId} {args : Array Value} {below : List Frame} {meth : Method} {c : Code} (hF : Fr p s m args meth c RX8 cX8_compile 2 (some .int) D Y E LC) {o : Int32 × Sta} : ∀ (v1 : Int32) (σ : Sta) (H : Heap) (locs : List Loc) (ls : Array Slot), f_X8_compile_92 v1 σ = some o → va_P D vwCl (wd Y E σ 0 LC) H → va_S (AF E LC.length s.heap.size) s.heap H locs → lv_has ls 2 [(0, .ref (E 0)), (1, .int v1)] → WI p l e rm_X8_compile s m args below meth c LC Y D E o H locs (F0 m 92 ls []) := by
  intro v1 σ H locs ls h hP hS hl
  unfold f_X8_compile_92 at h
  obtain ⟨hC, hb, hml, hr, hlk, hD, hSW⟩ := id hF
  have hx := hC.1
  refine lv_iload_n hx hb dX8_compile_92 rfl (lv_at hl 1 rfl) ?_
  refine lv_if_eq (tgt := 100) hx hb dX8_compile_93 (by decide) (fun c1 => ?_) (fun c1 => ?_)
  · have h := of_t h c1
    exact t_X8_compile_100  hF v1 σ _ _ _ h hP hS (lv_sub hl [1] rfl)
  · have h := of_f h c1
    refine lv_aload_n hx hb dX8_compile_96 rfl (lv_at hl 0 rfl) ?_
    obtain ⟨r2, σ3, g4, h⟩ := of_bnd h
    refine x_VV (As := []) (rest := []) hF hl hP hS (c_X8_forgetProgram g4) (cw_X8_100 hC rfl rfl ⟨Nat.le_of_ble_eq_true rfl, Nat.le_of_ble_eq_true rfl⟩) lc_0 rfl rfl rfl (Nat.le_of_ble_eq_true rfl) dX8_compile_97 ⟨Nat.zero_le _, Nat.zero_le _⟩ (fun H locs hP hS => ?_)
    exact t_X8_compile_100  hF v1 σ3 _ _ _ h hP hS (lv_sub hl [1] rfl)

def f_X8_compile_50 (σ : Sta) : Option (Int32 × Sta) :=
  lt (gI σ 262) (fun x1 =>
  lt (sI σ 12 (gI σ 263)) (fun σ2 =>
  if x1 = 0 then
    bnd (f_X5_explore σ2) (fun r4 σ5 =>
    lt (sI σ5 12 (gI σ5 330)) (fun σ7 =>
    f_X8_compile_92 r4 σ7))
  else
    f_X8_compile_92 x1 σ2))
set_option maxHeartbeats 4000000 in
set_option maxRecDepth 100000 in
theorem t_X8_compile_50 {l : Launch} {D : va_G} {Y : CYs} {E : Nat → Nat} {p : Program} {e : Env} {s : State} {m : MethodId} {args : Array Value} {below : List Frame} {meth : Method} {c : Code} (hF : Fr p s m args meth c RX8 cX8_compile 2 (some .int) D Y E LC) {o : Int32 × Sta} : ∀ (σ : Sta) (H : Heap) (locs : List Loc) (ls : Array Slot), f_X8_compile_50 σ = some o → va_P D vwCl (wd Y E σ 0 LC) H → va_S (AF E LC.length s.heap.size) s.heap H locs → lv_has ls 2 [(0, .ref (E 0))] → WI p l e rm_X8_compile s m args below meth c LC Y D E o H locs (F0 m 50 ls []) := by
  intro σ H locs ls h hP hS hl
  unfold f_X8_compile_50 at h
  obtain ⟨hC, hb, hml, hr, hlk, hD, hSW⟩ := id hF
  have hx := hC.1
  refine lv_aload_n hx hb dX8_compile_50 rfl (lv_at hl 0 rfl) ?_
  refine gf_X8_39 hC hb hP dX8_compile_51 ?_
  refine gf_X8_111 hC hb hP dX8_compile_54 ?_
  refine lv_topi (fun x1 ex1 => ?_)
  have h := of_lt h ex1
  refine lv_istore_n (lv' := [(1, .int x1), (0, .ref (E 0))]) hx hb dX8_compile_57 rfl hl (by decide) rfl (fun ls hl => ?_)
  refine lv_aload_n hx hb dX8_compile_58 rfl (lv_at hl 1 rfl) ?_
  refine lv_aload_n hx hb dX8_compile_59 rfl (lv_at hl 1 rfl) ?_
  refine gf_X8_39 hC hb hP dX8_compile_60 ?_
  refine gf_X8_114 hC hb hP dX8_compile_63 ?_
  refine pf_X8_78 hC hb hP hD hS dX8_compile_66 (fun H locs σ2 eσ2 hP hS => ?_)
  have h := of_lt h eσ2
  refine lv_iload_n hx hb dX8_compile_69 rfl (lv_at hl 0 rfl) ?_
  refine lv_if_ne (tgt := 92) hx hb dX8_compile_70 (by decide) (fun c3 => ?_) (fun c3 => ?_)
  · have h := of_f h c3
    exact t_X8_compile_92  hF x1 σ2 _ _ _ h hP hS (lv_sub hl [1, 0] rfl)
  · have h := of_t h c3
    refine lv_aload_n hx hb dX8_compile_73 rfl (lv_at hl 1 rfl) ?_
    refine gf_X8_48 hC hb hP dX8_compile_74 ?_
    obtain ⟨r4, σ5, g6, h⟩ := of_bnd h
    refine x_VI (As := []) (rest := []) hF hl hP hS (c_X5_explore g6) (cw_X8_115 hC rfl rfl ⟨Nat.le_of_ble_eq_true rfl, Nat.le_of_ble_eq_true rfl⟩) lc_5 rfl rfl rfl (Nat.le_of_ble_eq_true rfl) dX8_compile_77 ⟨Nat.zero_le _, Nat.zero_le _⟩ (fun H locs hP hS => ?_)
    refine lv_istore_n (lv' := [(1, .int r4), (0, .ref (E 0))]) hx hb dX8_compile_80 rfl hl (by decide) rfl (fun ls hl => ?_)
    refine lv_aload_n hx hb dX8_compile_81 rfl (lv_at hl 1 rfl) ?_
    refine lv_aload_n hx hb dX8_compile_82 rfl (lv_at hl 1 rfl) ?_
    refine gf_X8_48 hC hb hP dX8_compile_83 ?_
    refine gf_X8_119 hC hb hP dX8_compile_86 ?_
    refine pf_X8_78 hC hb hP hD hS dX8_compile_89 (fun H locs σ7 eσ7 hP hS => ?_)
    have h := of_lt h eσ7
    exact t_X8_compile_92  hF r4 σ7 _ _ _ h hP hS (lv_sub hl [1, 0] rfl)

def f_X8_compile (σ : Sta) : Option (Int32 × Sta) :=
  bnd (f_X8_forgetProgram σ) (fun _ σ2 =>
  bnd (f_X7_read (gI σ2 1) σ2) (fun _ σ5 =>
  lt (sI σ5 1 0) (fun σ7 =>
  bnd (f_X1_readProgram 0 σ7) (fun _ σ9 =>
  if gI σ9 262 = 0 then
    bnd (f_X1_readProgram 1 σ9) (fun _ σ13 =>
    f_X8_compile_50 σ13)
  else
    f_X8_compile_50 σ9))))
set_option maxHeartbeats 4000000 in
set_option maxRecDepth 100000 in
theorem c_X8_compile {l : Launch} {D : va_G} {Y : CYs} {E : Nat → Nat} {σ : Sta} {o : Int32 × Sta} (h : f_X8_compile σ = some o) : MI l yX8_compile (Cond.code yX8_compile cX8_compile 2 (some .int) :: gW) rm_X8_compile LC Y D E [.ref (E 0)] σ o := by
  intro sz
  refine Met_of (Qc := fun sz => QI LC Y D E sz o) (by decide) (Nat.le_of_ble_eq_true rfl) (fun p e s m args below meth c hF hP ls hl => ?_) sz
  have hS : va_S (AF E LC.length s.heap.size) s.heap s.heap [] := va_S.rf
  have hl : lv_has ls 2 [(0, .ref (E 0))] := hl
  show WI p l e rm_X8_compile s m args below meth c LC Y D E o s.heap [] (F0 m 0 ls [])
  unfold f_X8_compile at h
  obtain ⟨hC, hb, hml, hr, hlk, hD, hSW⟩ := id hF
  have hx := hC.1
  refine lv_aload_n hx hb dX8_compile_0 rfl (lv_at hl 0 rfl) ?_
  obtain ⟨r1, σ2, g3, h⟩ := of_bnd h
  refine x_VV (As := []) (rest := []) hF hl hP hS (c_X8_forgetProgram g3) (cw_X8_100 hC rfl rfl ⟨Nat.le_of_ble_eq_true rfl, Nat.le_of_ble_eq_true rfl⟩) lc_0 rfl rfl rfl (Nat.le_of_ble_eq_true rfl) dX8_compile_1 ⟨Nat.zero_le _, Nat.zero_le _⟩ (fun H locs hP hS => ?_)
  refine lv_aload_n hx hb dX8_compile_4 rfl (lv_at hl 0 rfl) ?_
  refine gf_X8_16 hC hb hP dX8_compile_5 ?_
  refine lv_aload_n hx hb dX8_compile_8 rfl (lv_at hl 0 rfl) ?_
  refine gf_X8_9 hC hb hP dX8_compile_9 ?_
  refine lv_aload_n hx hb dX8_compile_12 rfl (lv_at hl 0 rfl) ?_
  refine gf_X8_82 hC hb hP dX8_compile_13 ?_
  obtain ⟨r4, σ5, g6, h⟩ := of_bnd h
  refine x_VV (As := [.ref (E 8), .int (gI σ2 1)]) (rest := []) hF hl hP hS (c_X7_read g6) (cw_X8_103 hC rfl rfl ⟨Nat.le_of_ble_eq_true rfl, Nat.le_of_ble_eq_true rfl⟩) lc_1 rfl rfl rfl (Nat.le_of_ble_eq_true rfl) dX8_compile_16 ⟨Nat.zero_le _, Nat.zero_le _⟩ (fun H locs hP hS => ?_)
  refine lv_aload_n hx hb dX8_compile_19 rfl (lv_at hl 0 rfl) ?_
  refine lv_iconst (v := 0) hx hb dX8_compile_20 (by decide) ?_
  refine pf_X8_82 hC hb hP hD hS dX8_compile_21 (fun H locs σ7 eσ7 hP hS => ?_)
  have h := of_lt h eσ7
  refine lv_aload_n hx hb dX8_compile_24 rfl (lv_at hl 0 rfl) ?_
  refine gf_X8_39 hC hb hP dX8_compile_25 ?_
  refine lv_iconst (v := 0) hx hb dX8_compile_28 (by decide) ?_
  obtain ⟨r8, σ9, g10, h⟩ := of_bnd h
  refine x_VV (As := [.int 0]) (rest := []) hF hl hP hS (c_X1_readProgram g10) (cw_X8_107 hC rfl rfl ⟨Nat.le_of_ble_eq_true rfl, Nat.le_of_ble_eq_true rfl⟩) lc_4 rfl rfl rfl (Nat.le_of_ble_eq_true rfl) dX8_compile_29 ⟨Nat.zero_le _, Nat.zero_le _⟩ (fun H locs hP hS => ?_)
  refine lv_aload_n hx hb dX8_compile_32 rfl (lv_at hl 0 rfl) ?_
  refine gf_X8_39 hC hb hP dX8_compile_33 ?_
  refine gf_X8_111 hC hb hP dX8_compile_36 ?_
  refine lv_if_ne (tgt := 50) hx hb dX8_compile_39 (by decide) (fun c11 => ?_) (fun c11 => ?_)
  · have h := of_f h c11
    exact t_X8_compile_50  hF σ9 _ _ _ h hP hS (lv_sub hl [0] rfl)
  · have h := of_t h c11
    refine lv_aload_n hx hb dX8_compile_42 rfl (lv_at hl 0 rfl) ?_
    refine gf_X8_39 hC hb hP dX8_compile_43 ?_
    refine lv_iconst (v := 1) hx hb dX8_compile_46 (by decide) ?_
    obtain ⟨r12, σ13, g14, h⟩ := of_bnd h
    refine x_VV (As := [.int 1]) (rest := []) hF hl hP hS (c_X1_readProgram g14) (cw_X8_107 hC rfl rfl ⟨Nat.le_of_ble_eq_true rfl, Nat.le_of_ble_eq_true rfl⟩) lc_4 rfl rfl rfl (Nat.le_of_ble_eq_true rfl) dX8_compile_47 ⟨Nat.zero_le _, Nat.zero_le _⟩ (fun H locs hP hS => ?_)
    exact t_X8_compile_50  hF σ13 _ _ _ h hP hS (lv_sub hl [0] rfl)

abbrev rm_X8_count : Room := { frames := 0, cells := 0, slots := 0, locals := 0 }
def f_X8_count (a1 : Int32) (σ : Sta) : Option (Int32 × Sta) :=
  if a1 = 0 then
    some (gI σ 192, σ)
  else if a1 = 1 then
    some (gI σ 197, σ)
  else if a1 = 2 then
    some (gI σ 202, σ)
  else if a1 = 3 then
    some (gI σ 322, σ)
  else if a1 = 4 then
    some (gI σ 11, σ)
  else if a1 = 5 then
    some (gI σ 1, σ)
  else 
    none
set_option maxHeartbeats 4000000 in
set_option maxRecDepth 100000 in
theorem c_X8_count {l : Launch} {D : va_G} {Y : CYs} {E : Nat → Nat} {a1 : Int32} {σ : Sta} {o : Int32 × Sta} (h : f_X8_count a1 σ = some o) : MI l yX8_count (Cond.code yX8_count cX8_count 2 (some .int) :: gW) rm_X8_count LC Y D E [.ref (E 0), .int a1] σ o := by
  intro sz
  refine Met_of (Qc := fun sz => QI LC Y D E sz o) (by decide) (Nat.le_of_ble_eq_true rfl) (fun p e s m args below meth c hF hP ls hl => ?_) sz
  have hS : va_S (AF E LC.length s.heap.size) s.heap s.heap [] := va_S.rf
  have hl : lv_has ls 2 [(0, .ref (E 0)), (1, .int a1)] := hl
  show WI p l e rm_X8_count s m args below meth c LC Y D E o s.heap [] (F0 m 0 ls [])
  unfold f_X8_count at h
  obtain ⟨hC, hb, hml, hr, hlk, hD, hSW⟩ := id hF
  have hx := hC.1
  refine lv_iload_n hx hb dX8_count_0 rfl (lv_at hl 1 rfl) ?_
  by_cases c1 : a1 = 0
  · have h := of_t h c1
    refine lv_tableIn (tgt := 40) hx hb dX8_count_1 (by rw [c1]; try decide) (by rw [c1]; try decide) (by rw [c1]; try rfl) (by decide) ?_
    refine lv_aload_n hx hb dX8_count_40 rfl (lv_at hl 0 rfl) ?_
    refine gf_X8_30 hC hb hP dX8_count_41 ?_
    refine gf_X8_120 hC hb hP dX8_count_44 ?_
    exact x_iret hF hP hS h dX8_count_47
  · have h := of_f h c1
    by_cases c2 : a1 = 1
    · have h := of_t h c2
      refine lv_tableIn (tgt := 48) hx hb dX8_count_1 (by rw [c2]; try decide) (by rw [c2]; try decide) (by rw [c2]; try rfl) (by decide) ?_
      refine lv_aload_n hx hb dX8_count_48 rfl (lv_at hl 0 rfl) ?_
      refine gf_X8_30 hC hb hP dX8_count_49 ?_
      refine gf_X8_123 hC hb hP dX8_count_52 ?_
      exact x_iret hF hP hS h dX8_count_55
    · have h := of_f h c2
      by_cases c3 : a1 = 2
      · have h := of_t h c3
        refine lv_tableIn (tgt := 56) hx hb dX8_count_1 (by rw [c3]; try decide) (by rw [c3]; try decide) (by rw [c3]; try rfl) (by decide) ?_
        refine lv_aload_n hx hb dX8_count_56 rfl (lv_at hl 0 rfl) ?_
        refine gf_X8_30 hC hb hP dX8_count_57 ?_
        refine gf_X8_126 hC hb hP dX8_count_60 ?_
        exact x_iret hF hP hS h dX8_count_63
      · have h := of_f h c3
        by_cases c4 : a1 = 3
        · have h := of_t h c4
          refine lv_tableIn (tgt := 64) hx hb dX8_count_1 (by rw [c4]; try decide) (by rw [c4]; try decide) (by rw [c4]; try rfl) (by decide) ?_
          refine lv_aload_n hx hb dX8_count_64 rfl (lv_at hl 0 rfl) ?_
          refine gf_X8_48 hC hb hP dX8_count_65 ?_
          refine gf_X8_129 hC hb hP dX8_count_68 ?_
          exact x_iret hF hP hS h dX8_count_71
        · have h := of_f h c4
          by_cases c5 : a1 = 4
          · have h := of_t h c5
            refine lv_tableIn (tgt := 72) hx hb dX8_count_1 (by rw [c5]; try decide) (by rw [c5]; try decide) (by rw [c5]; try rfl) (by decide) ?_
            refine lv_aload_n hx hb dX8_count_72 rfl (lv_at hl 0 rfl) ?_
            refine gf_X8_132 hC hb hP dX8_count_73 ?_
            exact x_iret hF hP hS h dX8_count_76
          · have h := of_f h c5
            by_cases c6 : a1 = 5
            · have h := of_t h c6
              refine lv_tableIn (tgt := 77) hx hb dX8_count_1 (by rw [c6]; try decide) (by rw [c6]; try decide) (by rw [c6]; try rfl) (by decide) ?_
              refine lv_aload_n hx hb dX8_count_77 rfl (lv_at hl 0 rfl) ?_
              refine gf_X8_82 hC hb hP dX8_count_78 ?_
              exact x_iret hF hP hS h dX8_count_81
            · have h := of_f h c6
              refine lv_tableOut (tgt := 82) hx hb dX8_count_1 (by have nc1 := lv_neT (a := 0) c1 (by decide); have nc2 := lv_neT (a := 1) c2 (by decide); have nc3 := lv_neT (a := 2) c3 (by decide); have nc4 := lv_neT (a := 3) c4 (by decide); have nc5 := lv_neT (a := 4) c5 (by decide); have nc6 := lv_neT (a := 5) c6 (by decide); omega) (by decide) ?_
              exact nomatch h

abbrev rm_X8_checkIndex : Room := { frames := 0, cells := 0, slots := 0, locals := 0 }
def f_X8_checkIndex_9 (σ : Sta) : Option (Unit × Sta) :=
  none
set_option maxHeartbeats 4000000 in
set_option maxRecDepth 100000 in
theorem t_X8_checkIndex_9 {l : Launch} {D : va_G} {Y : CYs} {E : Nat → Nat} {p : Program} {e : Env} {s : State} {m : MethodId} {args : Array Value} {below : List Frame} {meth : Method} {c : Code} (hF : Fr p s m args meth c RX8 cX8_checkIndex 3 none D Y E LC) {o : Unit × Sta} : ∀ (σ : Sta) (H : Heap) (locs : List Loc) (ls : Array Slot), f_X8_checkIndex_9 σ = some o → va_P D vwCl (wd Y E σ 0 LC) H → va_S (AF E LC.length s.heap.size) s.heap H locs → lv_has ls 3 [] → WV p l e rm_X8_checkIndex s m args below meth c LC Y D E o H locs (F0 m 9 ls []) := by
  intro σ H locs ls h hP hS hl
  unfold f_X8_checkIndex_9 at h
  obtain ⟨hC, hb, hml, hr, hlk, hD, hSW⟩ := id hF
  have hx := hC.1
  exact nomatch h

def f_X8_checkIndex (a1 : Int32) (a2 : Int32) (σ : Sta) : Option (Unit × Sta) :=
  if a1 < 0 then
    f_X8_checkIndex_9 σ
  else
    if a1 < a2 then
      some ((), σ)
    else
      f_X8_checkIndex_9 σ
set_option maxHeartbeats 4000000 in
set_option maxRecDepth 100000 in
theorem c_X8_checkIndex {l : Launch} {D : va_G} {Y : CYs} {E : Nat → Nat} {a1 : Int32} {a2 : Int32} {σ : Sta} {o : Unit × Sta} (h : f_X8_checkIndex a1 a2 σ = some o) : MV l yX8_checkIndex (Cond.code yX8_checkIndex cX8_checkIndex 3 none :: gW) rm_X8_checkIndex LC Y D E [.ref (E 0), .int a1, .int a2] σ o := by
  intro sz
  refine Met_of (Qc := fun sz => QV LC Y D E sz o) (by decide) (Nat.le_of_ble_eq_true rfl) (fun p e s m args below meth c hF hP ls hl => ?_) sz
  have hS : va_S (AF E LC.length s.heap.size) s.heap s.heap [] := va_S.rf
  have hl : lv_has ls 3 [(0, .ref (E 0)), (1, .int a1), (2, .int a2)] := hl
  show WV p l e rm_X8_checkIndex s m args below meth c LC Y D E o s.heap [] (F0 m 0 ls [])
  unfold f_X8_checkIndex at h
  obtain ⟨hC, hb, hml, hr, hlk, hD, hSW⟩ := id hF
  have hx := hC.1
  refine lv_iload_n hx hb dX8_checkIndex_0 rfl (lv_at hl 1 rfl) ?_
  refine lv_if_lt (tgt := 9) hx hb dX8_checkIndex_1 (by decide) (fun c1 => ?_) (fun c1 => ?_)
  · have h := of_t h c1
    exact t_X8_checkIndex_9  hF σ _ _ _ h hP hS (lv_sub hl [] rfl)
  · have h := of_f h c1
    refine lv_iload_n hx hb dX8_checkIndex_4 rfl (lv_at hl 1 rfl) ?_
    refine lv_iload_n hx hb dX8_checkIndex_5 rfl (lv_at hl 2 rfl) ?_
    refine lv_icmp_lt (tgt := 20) hx hb dX8_checkIndex_6 (by decide) (fun c2 => ?_) (fun c2 => ?_)
    · have h := of_t h c2
      exact x_vret hF hP hS h dX8_checkIndex_20
    · have h := of_f h c2
      exact t_X8_checkIndex_9  hF σ _ _ _ h hP hS (lv_sub hl [] rfl)

abbrev rm_X8_checkState : Room := { frames := 1, cells := 0, slots := 0, locals := 22 }
def f_X8_checkState (a1 : Int32) (σ : Sta) : Option (Unit × Sta) :=
  bnd (f_X8_checkIndex a1 (gI σ 322) σ) (fun _ σ2 =>
  some ((), σ2))
set_option maxHeartbeats 4000000 in
set_option maxRecDepth 100000 in
theorem c_X8_checkState {l : Launch} {D : va_G} {Y : CYs} {E : Nat → Nat} {a1 : Int32} {σ : Sta} {o : Unit × Sta} (h : f_X8_checkState a1 σ = some o) : MV l yX8_checkState (Cond.code yX8_checkState cX8_checkState 2 none :: gW) rm_X8_checkState LC Y D E [.ref (E 0), .int a1] σ o := by
  intro sz
  refine Met_of (Qc := fun sz => QV LC Y D E sz o) (by decide) (Nat.le_of_ble_eq_true rfl) (fun p e s m args below meth c hF hP ls hl => ?_) sz
  have hS : va_S (AF E LC.length s.heap.size) s.heap s.heap [] := va_S.rf
  have hl : lv_has ls 2 [(0, .ref (E 0)), (1, .int a1)] := hl
  show WV p l e rm_X8_checkState s m args below meth c LC Y D E o s.heap [] (F0 m 0 ls [])
  unfold f_X8_checkState at h
  obtain ⟨hC, hb, hml, hr, hlk, hD, hSW⟩ := id hF
  have hx := hC.1
  refine lv_aload_n hx hb dX8_checkState_0 rfl (lv_at hl 0 rfl) ?_
  refine lv_iload_n hx hb dX8_checkState_1 rfl (lv_at hl 1 rfl) ?_
  refine lv_aload_n hx hb dX8_checkState_2 rfl (lv_at hl 0 rfl) ?_
  refine gf_X8_48 hC hb hP dX8_checkState_3 ?_
  refine gf_X8_129 hC hb hP dX8_checkState_6 ?_
  obtain ⟨r1, σ2, g3, h⟩ := of_bnd h
  refine x_VV (As := [.int a1, .int (gI σ 322)]) (rest := []) hF hl hP hS (c_X8_checkIndex g3) (cw_X8_157 hC rfl rfl ⟨Nat.le_of_ble_eq_true rfl, Nat.le_of_ble_eq_true rfl⟩) lc_0 rfl rfl rfl (Nat.le_of_ble_eq_true rfl) dX8_checkState_9 ⟨Nat.zero_le _, Nat.zero_le _⟩ (fun H locs hP hS => ?_)
  exact x_vret hF hP hS h dX8_checkState_12

abbrev rm_X8_choices : Room := { frames := 2, cells := 0, slots := 0, locals := 43 }
def f_X8_choices (a1 : Int32) (σ : Sta) : Option (Int32 × Sta) :=
  bnd (f_X8_checkState a1 σ) (fun _ σ2 =>
  if a1 < 0 ∨ 100 ≤ (a1.toNatClampNeg) then none else (
  some (gA σ2 33 (a1.toNatClampNeg), σ2)))
set_option maxHeartbeats 4000000 in
set_option maxRecDepth 100000 in
theorem c_X8_choices {l : Launch} {D : va_G} {Y : CYs} {E : Nat → Nat} {a1 : Int32} {σ : Sta} {o : Int32 × Sta} (h : f_X8_choices a1 σ = some o) : MI l yX8_choices (Cond.code yX8_choices cX8_choices 2 (some .int) :: gW) rm_X8_choices LC Y D E [.ref (E 0), .int a1] σ o := by
  intro sz
  refine Met_of (Qc := fun sz => QI LC Y D E sz o) (by decide) (Nat.le_of_ble_eq_true rfl) (fun p e s m args below meth c hF hP ls hl => ?_) sz
  have hS : va_S (AF E LC.length s.heap.size) s.heap s.heap [] := va_S.rf
  have hl : lv_has ls 2 [(0, .ref (E 0)), (1, .int a1)] := hl
  show WI p l e rm_X8_choices s m args below meth c LC Y D E o s.heap [] (F0 m 0 ls [])
  unfold f_X8_choices at h
  obtain ⟨hC, hb, hml, hr, hlk, hD, hSW⟩ := id hF
  have hx := hC.1
  refine lv_aload_n hx hb dX8_choices_0 rfl (lv_at hl 0 rfl) ?_
  refine lv_iload_n hx hb dX8_choices_1 rfl (lv_at hl 1 rfl) ?_
  obtain ⟨r1, σ2, g3, h⟩ := of_bnd h
  refine x_VV (As := [.int a1]) (rest := []) hF hl hP hS (c_X8_checkState g3) (cw_X8_140 hC rfl rfl ⟨Nat.le_of_ble_eq_true rfl, Nat.le_of_ble_eq_true rfl⟩) lc_0 rfl rfl rfl (Nat.le_of_ble_eq_true rfl) dX8_choices_2 ⟨Nat.zero_le _, Nat.zero_le _⟩ (fun H locs hP hS => ?_)
  refine lv_aload_n hx hb dX8_choices_5 rfl (lv_at hl 0 rfl) ?_
  refine gf_X8_48 hC hb hP dX8_choices_6 ?_
  refine gf_X8_165 hC hb hP dX8_choices_9 ?_
  refine lv_iload_n hx hb dX8_choices_12 rfl (lv_at hl 1 rfl) ?_
  obtain ⟨g4, h⟩ := of_gd h
  refine x_iald hC hb hP lc_33 g4 dX8_choices_13 ?_
  exact x_iret hF hP hS h dX8_choices_14

abbrev rm_X8_checkChoice : Room := { frames := 2, cells := 0, slots := 0, locals := 43 }
def f_X8_checkChoice (a1 : Int32) (a2 : Int32) (σ : Sta) : Option (Unit × Sta) :=
  bnd (f_X8_checkState a1 σ) (fun _ σ2 =>
  if a1 < 0 ∨ 100 ≤ (a1.toNatClampNeg) then none else (
  bnd (f_X8_checkIndex a2 (gA σ2 33 (a1.toNatClampNeg)) σ2) (fun _ σ6 =>
  some ((), σ6))))
set_option maxHeartbeats 4000000 in
set_option maxRecDepth 100000 in
theorem c_X8_checkChoice {l : Launch} {D : va_G} {Y : CYs} {E : Nat → Nat} {a1 : Int32} {a2 : Int32} {σ : Sta} {o : Unit × Sta} (h : f_X8_checkChoice a1 a2 σ = some o) : MV l yX8_checkChoice (Cond.code yX8_checkChoice cX8_checkChoice 3 none :: gW) rm_X8_checkChoice LC Y D E [.ref (E 0), .int a1, .int a2] σ o := by
  intro sz
  refine Met_of (Qc := fun sz => QV LC Y D E sz o) (by decide) (Nat.le_of_ble_eq_true rfl) (fun p e s m args below meth c hF hP ls hl => ?_) sz
  have hS : va_S (AF E LC.length s.heap.size) s.heap s.heap [] := va_S.rf
  have hl : lv_has ls 3 [(0, .ref (E 0)), (1, .int a1), (2, .int a2)] := hl
  show WV p l e rm_X8_checkChoice s m args below meth c LC Y D E o s.heap [] (F0 m 0 ls [])
  unfold f_X8_checkChoice at h
  obtain ⟨hC, hb, hml, hr, hlk, hD, hSW⟩ := id hF
  have hx := hC.1
  refine lv_aload_n hx hb dX8_checkChoice_0 rfl (lv_at hl 0 rfl) ?_
  refine lv_iload_n hx hb dX8_checkChoice_1 rfl (lv_at hl 1 rfl) ?_
  obtain ⟨r1, σ2, g3, h⟩ := of_bnd h
  refine x_VV (As := [.int a1]) (rest := []) hF hl hP hS (c_X8_checkState g3) (cw_X8_140 hC rfl rfl ⟨Nat.le_of_ble_eq_true rfl, Nat.le_of_ble_eq_true rfl⟩) lc_0 rfl rfl rfl (Nat.le_of_ble_eq_true rfl) dX8_checkChoice_2 ⟨Nat.zero_le _, Nat.zero_le _⟩ (fun H locs hP hS => ?_)
  refine lv_aload_n hx hb dX8_checkChoice_5 rfl (lv_at hl 0 rfl) ?_
  refine lv_iload_n hx hb dX8_checkChoice_6 rfl (lv_at hl 2 rfl) ?_
  refine lv_aload_n hx hb dX8_checkChoice_7 rfl (lv_at hl 0 rfl) ?_
  refine gf_X8_48 hC hb hP dX8_checkChoice_8 ?_
  refine gf_X8_165 hC hb hP dX8_checkChoice_11 ?_
  refine lv_iload_n hx hb dX8_checkChoice_14 rfl (lv_at hl 1 rfl) ?_
  obtain ⟨g4, h⟩ := of_gd h
  refine x_iald hC hb hP lc_33 g4 dX8_checkChoice_15 ?_
  obtain ⟨r5, σ6, g7, h⟩ := of_bnd h
  refine x_VV (As := [.int a2, .int (gA σ2 33 (a1.toNatClampNeg))]) (rest := []) hF hl hP hS (c_X8_checkIndex g7) (cw_X8_157 hC rfl rfl ⟨Nat.le_of_ble_eq_true rfl, Nat.le_of_ble_eq_true rfl⟩) lc_0 rfl rfl rfl (Nat.le_of_ble_eq_true rfl) dX8_checkChoice_16 ⟨Nat.zero_le _, Nat.zero_le _⟩ (fun H locs hP hS => ?_)
  exact x_vret hF hP hS h dX8_checkChoice_19

abbrev rm_X8_choice : Room := { frames := 3, cells := 0, slots := 0, locals := 65 }
def f_X8_choice_37 (s0 : Int32) (σ : Sta) : Option (Int32 × Sta) :=
  some (s0, σ)
set_option maxHeartbeats 4000000 in
set_option maxRecDepth 100000 in
theorem t_X8_choice_37 {l : Launch} {D : va_G} {Y : CYs} {E : Nat → Nat} {p : Program} {e : Env} {s : State} {m : MethodId} {args : Array Value} {below : List Frame} {meth : Method} {c : Code} (hF : Fr p s m args meth c RX8 cX8_choice 4 (some .int) D Y E LC) {o : Int32 × Sta} : ∀ (s0 : Int32) (σ : Sta) (H : Heap) (locs : List Loc) (ls : Array Slot), f_X8_choice_37 s0 σ = some o → va_P D vwCl (wd Y E σ 0 LC) H → va_S (AF E LC.length s.heap.size) s.heap H locs → lv_has ls 4 [] → WI p l e rm_X8_choice s m args below meth c LC Y D E o H locs (F0 m 37 ls [.int s0]) := by
  intro s0 σ H locs ls h hP hS hl
  unfold f_X8_choice_37 at h
  obtain ⟨hC, hb, hml, hr, hlk, hD, hSW⟩ := id hF
  have hx := hC.1
  exact x_iret hF hP hS h dX8_choice_37

def f_X8_choice (a1 : Int32) (a2 : Int32) (a3 : Int32) (σ : Sta) : Option (Int32 × Sta) :=
  bnd (f_X8_checkChoice a1 a2 σ) (fun _ σ2 =>
  bnd (f_X8_checkIndex a3 2 σ2) (fun _ σ5 =>
  if a3 = 0 then
    bnd (f_X5_commandOf a1 a2 σ5) (fun r11 σ12 =>
    f_X8_choice_37 r11 σ12)
  else
    bnd (f_X5_branchesOf a1 a2 σ5) (fun r8 σ9 =>
    f_X8_choice_37 r8 σ9)))
set_option maxHeartbeats 4000000 in
set_option maxRecDepth 100000 in
theorem c_X8_choice {l : Launch} {D : va_G} {Y : CYs} {E : Nat → Nat} {a1 : Int32} {a2 : Int32} {a3 : Int32} {σ : Sta} {o : Int32 × Sta} (h : f_X8_choice a1 a2 a3 σ = some o) : MI l yX8_choice (Cond.code yX8_choice cX8_choice 4 (some .int) :: gW) rm_X8_choice LC Y D E [.ref (E 0), .int a1, .int a2, .int a3] σ o := by
  intro sz
  refine Met_of (Qc := fun sz => QI LC Y D E sz o) (by decide) (Nat.le_of_ble_eq_true rfl) (fun p e s m args below meth c hF hP ls hl => ?_) sz
  have hS : va_S (AF E LC.length s.heap.size) s.heap s.heap [] := va_S.rf
  have hl : lv_has ls 4 [(0, .ref (E 0)), (1, .int a1), (2, .int a2), (3, .int a3)] := hl
  show WI p l e rm_X8_choice s m args below meth c LC Y D E o s.heap [] (F0 m 0 ls [])
  unfold f_X8_choice at h
  obtain ⟨hC, hb, hml, hr, hlk, hD, hSW⟩ := id hF
  have hx := hC.1
  refine lv_aload_n hx hb dX8_choice_0 rfl (lv_at hl 0 rfl) ?_
  refine lv_iload_n hx hb dX8_choice_1 rfl (lv_at hl 1 rfl) ?_
  refine lv_iload_n hx hb dX8_choice_2 rfl (lv_at hl 2 rfl) ?_
  obtain ⟨r1, σ2, g3, h⟩ := of_bnd h
  refine x_VV (As := [.int a1, .int a2]) (rest := []) hF hl hP hS (c_X8_checkChoice g3) (cw_X8_168 hC rfl rfl ⟨Nat.le_of_ble_eq_true rfl, Nat.le_of_ble_eq_true rfl⟩) lc_0 rfl rfl rfl (Nat.le_of_ble_eq_true rfl) dX8_choice_3 ⟨Nat.zero_le _, Nat.zero_le _⟩ (fun H locs hP hS => ?_)
  refine lv_aload_n hx hb dX8_choice_6 rfl (lv_at hl 0 rfl) ?_
  refine lv_iload_n hx hb dX8_choice_7 rfl (lv_at hl 3 rfl) ?_
  refine lv_iconst (v := 2) hx hb dX8_choice_8 (by decide) ?_
  obtain ⟨r4, σ5, g6, h⟩ := of_bnd h
  refine x_VV (As := [.int a3, .int 2]) (rest := []) hF hl hP hS (c_X8_checkIndex g6) (cw_X8_157 hC rfl rfl ⟨Nat.le_of_ble_eq_true rfl, Nat.le_of_ble_eq_true rfl⟩) lc_0 rfl rfl rfl (Nat.le_of_ble_eq_true rfl) dX8_choice_9 ⟨Nat.zero_le _, Nat.zero_le _⟩ (fun H locs hP hS => ?_)
  refine lv_iload_n hx hb dX8_choice_12 rfl (lv_at hl 3 rfl) ?_
  refine lv_if_ne (tgt := 28) hx hb dX8_choice_13 (by decide) (fun c7 => ?_) (fun c7 => ?_)
  · have h := of_f h c7
    refine lv_aload_n hx hb dX8_choice_28 rfl (lv_at hl 0 rfl) ?_
    refine gf_X8_48 hC hb hP dX8_choice_29 ?_
    refine lv_iload_n hx hb dX8_choice_32 rfl (lv_at hl 1 rfl) ?_
    refine lv_iload_n hx hb dX8_choice_33 rfl (lv_at hl 2 rfl) ?_
    obtain ⟨r8, σ9, g10, h⟩ := of_bnd h
    refine x_VI (As := [.int a1, .int a2]) (rest := []) hF hl hP hS (c_X5_branchesOf g10) (cw_X8_175 hC rfl rfl ⟨Nat.le_of_ble_eq_true rfl, Nat.le_of_ble_eq_true rfl⟩) lc_5 rfl rfl rfl (Nat.le_of_ble_eq_true rfl) dX8_choice_34 ⟨Nat.zero_le _, Nat.zero_le _⟩ (fun H locs hP hS => ?_)
    exact t_X8_choice_37  hF r8 σ9 _ _ _ h hP hS (lv_sub hl [] rfl)
  · have h := of_t h c7
    refine lv_aload_n hx hb dX8_choice_16 rfl (lv_at hl 0 rfl) ?_
    refine gf_X8_48 hC hb hP dX8_choice_17 ?_
    refine lv_iload_n hx hb dX8_choice_20 rfl (lv_at hl 1 rfl) ?_
    refine lv_iload_n hx hb dX8_choice_21 rfl (lv_at hl 2 rfl) ?_
    obtain ⟨r11, σ12, g13, h⟩ := of_bnd h
    refine x_VI (As := [.int a1, .int a2]) (rest := []) hF hl hP hS (c_X5_commandOf g13) (cw_X8_171 hC rfl rfl ⟨Nat.le_of_ble_eq_true rfl, Nat.le_of_ble_eq_true rfl⟩) lc_5 rfl rfl rfl (Nat.le_of_ble_eq_true rfl) dX8_choice_22 ⟨Nat.zero_le _, Nat.zero_le _⟩ (fun H locs hP hS => ?_)
    refine lv_goto (tgt := 37) hx hb dX8_choice_25 (by decide) ?_
    exact t_X8_choice_37  hF r11 σ12 _ _ _ h hP hS (lv_sub hl [] rfl)

abbrev rm_X8_checkGain : Room := { frames := 1, cells := 0, slots := 0, locals := 22 }
def f_X8_checkGain (a1 : Int32) (σ : Sta) : Option (Unit × Sta) :=
  bnd (f_X8_checkIndex a1 (gI σ 197) σ) (fun _ σ2 =>
  some ((), σ2))
set_option maxHeartbeats 4000000 in
set_option maxRecDepth 100000 in
theorem c_X8_checkGain {l : Launch} {D : va_G} {Y : CYs} {E : Nat → Nat} {a1 : Int32} {σ : Sta} {o : Unit × Sta} (h : f_X8_checkGain a1 σ = some o) : MV l yX8_checkGain (Cond.code yX8_checkGain cX8_checkGain 2 none :: gW) rm_X8_checkGain LC Y D E [.ref (E 0), .int a1] σ o := by
  intro sz
  refine Met_of (Qc := fun sz => QV LC Y D E sz o) (by decide) (Nat.le_of_ble_eq_true rfl) (fun p e s m args below meth c hF hP ls hl => ?_) sz
  have hS : va_S (AF E LC.length s.heap.size) s.heap s.heap [] := va_S.rf
  have hl : lv_has ls 2 [(0, .ref (E 0)), (1, .int a1)] := hl
  show WV p l e rm_X8_checkGain s m args below meth c LC Y D E o s.heap [] (F0 m 0 ls [])
  unfold f_X8_checkGain at h
  obtain ⟨hC, hb, hml, hr, hlk, hD, hSW⟩ := id hF
  have hx := hC.1
  refine lv_aload_n hx hb dX8_checkGain_0 rfl (lv_at hl 0 rfl) ?_
  refine lv_iload_n hx hb dX8_checkGain_1 rfl (lv_at hl 1 rfl) ?_
  refine lv_aload_n hx hb dX8_checkGain_2 rfl (lv_at hl 0 rfl) ?_
  refine gf_X8_30 hC hb hP dX8_checkGain_3 ?_
  refine gf_X8_123 hC hb hP dX8_checkGain_6 ?_
  obtain ⟨r1, σ2, g3, h⟩ := of_bnd h
  refine x_VV (As := [.int a1, .int (gI σ 197)]) (rest := []) hF hl hP hS (c_X8_checkIndex g3) (cw_X8_157 hC rfl rfl ⟨Nat.le_of_ble_eq_true rfl, Nat.le_of_ble_eq_true rfl⟩) lc_0 rfl rfl rfl (Nat.le_of_ble_eq_true rfl) dX8_checkGain_9 ⟨Nat.zero_le _, Nat.zero_le _⟩ (fun H locs hP hS => ?_)
  exact x_vret hF hP hS h dX8_checkGain_12
