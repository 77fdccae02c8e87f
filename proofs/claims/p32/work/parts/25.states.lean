theorem pf_X5_39 {p : Program} {l : Launch} {e : Env} {R : Room} {s : State} {m : MethodId} {args : Array Value} {below : List Frame} {meth : Method} {c : Code} {H : Heap} {locs : List Loc} {cells slots : Nat} {Q : State → Prop} {D : va_G} {Y : CYs} {E : Nat → Nat} {σ : Sta} {cc : ByteArray} {pc : Nat} {ls : Array Slot} {rest : List Value} {A : Nat → Prop} {H0 : Heap} {x : Int32} (hC : Ctx p s m args RX5 D Y) (hb : c.code = cc) (hP : va_P D vwCl (wd Y E σ 0 LC) H) (hD : ∀ τ, va_D A (wd Y E τ 0 LC)) (hS : va_S A H0 H locs) (hdg : decode cc pc = .ok (.putfield 39, 3)) (kk : ∀ (H1 : Heap) (locs1 : List Loc) (τ : Sta), τ = sI σ 322 x → va_P D vwCl (wd Y E τ 0 LC) H1 → va_S A H0 H1 locs1 → W p l e R s m args below meth c H1 locs1 cells slots Q (F0 m (pc + 3) ls rest)) : W p l e R s m args below meth c H locs cells slots Q (F0 m pc ls (.int x :: .ref (E 5) :: rest)) :=
  x_putI lokC hC hb hP hD hS inGX5 tyX5 tyX5_ok nmX5 lc_5 rfl 2 (by decide) rfl (gw_t (tb1 (List.mem_of_getElem? (i := 212) rfl)) rfl) rfl rfl rfl rfl rfl hdg kk
theorem gf_X5_39 {p : Program} {l : Launch} {e : Env} {R : Room} {s : State} {m : MethodId} {args : Array Value} {below : List Frame} {meth : Method} {c : Code} {H : Heap} {locs : List Loc} {cells slots : Nat} {Q : State → Prop} {D : va_G} {Y : CYs} {E : Nat → Nat} {σ : Sta} {cc : ByteArray} {pc : Nat} {ls : Array Slot} {rest : List Value} (hC : Ctx p s m args RX5 D Y) (hb : c.code = cc) (hP : va_P D vwCl (wd Y E σ 0 LC) H) (hdg : decode cc pc = .ok (.getfield 39, 3)) (kk : W p l e R s m args below meth c H locs cells slots Q (F0 m (pc + 3) ls (.int (gI σ 322) :: rest))) : W p l e R s m args below meth c H locs cells slots Q (F0 m pc ls (.ref (E 5) :: rest)) :=
  x_getI hC hb hP inGX5 lc_5 rfl 2 (by decide) rfl (gw_t (tb1 (List.mem_of_getElem? (i := 212) rfl)) rfl) rfl hdg kk
theorem gf_X5_28 {p : Program} {l : Launch} {e : Env} {R : Room} {s : State} {m : MethodId} {args : Array Value} {below : List Frame} {meth : Method} {c : Code} {H : Heap} {locs : List Loc} {cells slots : Nat} {Q : State → Prop} {D : va_G} {Y : CYs} {E : Nat → Nat} {σ : Sta} {cc : ByteArray} {pc : Nat} {ls : Array Slot} {rest : List Value} (hC : Ctx p s m args RX5 D Y) (hb : c.code = cc) (hP : va_P D vwCl (wd Y E σ 0 LC) H) (hdg : decode cc pc = .ok (.getfield 28, 3)) (kk : W p l e R s m args below meth c H locs cells slots Q (F0 m (pc + 3) ls (.ref (E 37) :: rest))) : W p l e R s m args below meth c H locs cells slots Q (F0 m pc ls (.ref (E 5) :: rest)) :=
  x_getR hC hb hP inGX5 lc_5 rfl 8 (by decide) rfl (gw_t (tb1 (List.mem_of_getElem? (i := 222) rfl)) rfl) rfl hdg kk
theorem gf_X5_9 {p : Program} {l : Launch} {e : Env} {R : Room} {s : State} {m : MethodId} {args : Array Value} {below : List Frame} {meth : Method} {c : Code} {H : Heap} {locs : List Loc} {cells slots : Nat} {Q : State → Prop} {D : va_G} {Y : CYs} {E : Nat → Nat} {σ : Sta} {cc : ByteArray} {pc : Nat} {ls : Array Slot} {rest : List Value} (hC : Ctx p s m args RX5 D Y) (hb : c.code = cc) (hP : va_P D vwCl (wd Y E σ 0 LC) H) (hdg : decode cc pc = .ok (.getfield 9, 3)) (kk : W p l e R s m args below meth c H locs cells slots Q (F0 m (pc + 3) ls (.ref (E 32) :: rest))) : W p l e R s m args below meth c H locs cells slots Q (F0 m pc ls (.ref (E 5) :: rest)) :=
  x_getR hC hb hP inGX5 lc_5 rfl 3 (by decide) rfl (gw_t (tb1 (List.mem_of_getElem? (i := 215) rfl)) rfl) rfl hdg kk
theorem gf_X5_31 {p : Program} {l : Launch} {e : Env} {R : Room} {s : State} {m : MethodId} {args : Array Value} {below : List Frame} {meth : Method} {c : Code} {H : Heap} {locs : List Loc} {cells slots : Nat} {Q : State → Prop} {D : va_G} {Y : CYs} {E : Nat → Nat} {σ : Sta} {cc : ByteArray} {pc : Nat} {ls : Array Slot} {rest : List Value} (hC : Ctx p s m args RX5 D Y) (hb : c.code = cc) (hP : va_P D vwCl (wd Y E σ 0 LC) H) (hdg : decode cc pc = .ok (.getfield 31, 3)) (kk : W p l e R s m args below meth c H locs cells slots Q (F0 m (pc + 3) ls (.ref (E 3) :: rest))) : W p l e R s m args below meth c H locs cells slots Q (F0 m pc ls (.ref (E 5) :: rest)) :=
  x_getR hC hb hP inGX5 lc_5 rfl 0 (by decide) rfl (gw_t (tb1 (List.mem_of_getElem? (i := 209) rfl)) rfl) rfl hdg kk
theorem gf_X5_88 {p : Program} {l : Launch} {e : Env} {R : Room} {s : State} {m : MethodId} {args : Array Value} {below : List Frame} {meth : Method} {c : Code} {H : Heap} {locs : List Loc} {cells slots : Nat} {Q : State → Prop} {D : va_G} {Y : CYs} {E : Nat → Nat} {σ : Sta} {cc : ByteArray} {pc : Nat} {ls : Array Slot} {rest : List Value} (hC : Ctx p s m args RX5 D Y) (hb : c.code = cc) (hP : va_P D vwCl (wd Y E σ 0 LC) H) (hdg : decode cc pc = .ok (.getfield 88, 3)) (kk : W p l e R s m args below meth c H locs cells slots Q (F0 m (pc + 3) ls (.int (gI σ 192) :: rest))) : W p l e R s m args below meth c H locs cells slots Q (F0 m pc ls (.ref (E 3) :: rest)) :=
  x_getIN hC hb hP inGX4 lc_3 rfl 0 (by decide) rfl (List.mem_of_getElem? (i := 8) rfl) rfl hdg kk
theorem gf_X5_129 {p : Program} {l : Launch} {e : Env} {R : Room} {s : State} {m : MethodId} {args : Array Value} {below : List Frame} {meth : Method} {c : Code} {H : Heap} {locs : List Loc} {cells slots : Nat} {Q : State → Prop} {D : va_G} {Y : CYs} {E : Nat → Nat} {σ : Sta} {cc : ByteArray} {pc : Nat} {ls : Array Slot} {rest : List Value} (hC : Ctx p s m args RX5 D Y) (hb : c.code = cc) (hP : va_P D vwCl (wd Y E σ 0 LC) H) (hdg : decode cc pc = .ok (.getfield 129, 3)) (kk : W p l e R s m args below meth c H locs cells slots Q (F0 m (pc + 3) ls (.ref (E 31) :: rest))) : W p l e R s m args below meth c H locs cells slots Q (F0 m pc ls (.ref (E 3) :: rest)) :=
  x_getRN hC hb hP inGX4 lc_3 rfl 16 (by decide) rfl (List.mem_of_getElem? (i := 27) rfl) rfl hdg kk
theorem gf_X5_35 {p : Program} {l : Launch} {e : Env} {R : Room} {s : State} {m : MethodId} {args : Array Value} {below : List Frame} {meth : Method} {c : Code} {H : Heap} {locs : List Loc} {cells slots : Nat} {Q : State → Prop} {D : va_G} {Y : CYs} {E : Nat → Nat} {σ : Sta} {cc : ByteArray} {pc : Nat} {ls : Array Slot} {rest : List Value} (hC : Ctx p s m args RX5 D Y) (hb : c.code = cc) (hP : va_P D vwCl (wd Y E σ 0 LC) H) (hdg : decode cc pc = .ok (.getfield 35, 3)) (kk : W p l e R s m args below meth c H locs cells slots Q (F0 m (pc + 3) ls (.ref (E 2) :: rest))) : W p l e R s m args below meth c H locs cells slots Q (F0 m pc ls (.ref (E 5) :: rest)) :=
  x_getR hC hb hP inGX5 lc_5 rfl 1 (by decide) rfl (gw_t (tb1 (List.mem_of_getElem? (i := 211) rfl)) rfl) rfl hdg kk
theorem cw_X5_99 {R : Room} {p : Program} {s : State} {m : MethodId} {args : Array Value} {D : va_G} {Y : CYs} {rm : Room} (hC : Ctx p s m args RX5 D Y) (hrc : rm.cells = 0) (hrs : rm.slots = 0) (hR : rm.frames + 1 ≤ R.frames ∧ 8 + (8 + 11) + rm.locals ≤ R.locals) : CallW R s args RX5 RX0 99 yX0_reckon cX0_reckon 8 (some .long) (Cond.code yX0_reckon cX0_reckon 8 (some .long) :: gW) rm 0 0 3 :=
  cwV 3 hC.2.1 (gi_V (gw_t (tb6 (List.mem_of_getElem? (i := 105) rfl)) rfl) (gw_t (tb6 (List.mem_of_getElem? (i := 106) rfl)) rfl) (gw_t (tb6 (List.mem_of_getElem? (i := 107) rfl)) rfl) (gw_t (tb1 (List.mem_of_getElem? (i := 3) rfl)) rfl) (gw_t (tb6 (List.mem_of_getElem? (i := 108) rfl)) rfl)) rfl hrc hrs ⟨rfl, by decide +kernel, by decide +kernel, by decide +kernel⟩ hR
theorem gf_X5_132 {p : Program} {l : Launch} {e : Env} {R : Room} {s : State} {m : MethodId} {args : Array Value} {below : List Frame} {meth : Method} {c : Code} {H : Heap} {locs : List Loc} {cells slots : Nat} {Q : State → Prop} {D : va_G} {Y : CYs} {E : Nat → Nat} {σ : Sta} {cc : ByteArray} {pc : Nat} {ls : Array Slot} {rest : List Value} (hC : Ctx p s m args RX5 D Y) (hb : c.code = cc) (hP : va_P D vwCl (wd Y E σ 0 LC) H) (hdg : decode cc pc = .ok (.getfield 132, 3)) (kk : W p l e R s m args below meth c H locs cells slots Q (F0 m (pc + 3) ls (.ref (E 21) :: rest))) : W p l e R s m args below meth c H locs cells slots Q (F0 m pc ls (.ref (E 3) :: rest)) :=
  x_getRN hC hb hP inGX4 lc_3 rfl 3 (by decide) rfl (List.mem_of_getElem? (i := 10) rfl) rfl hdg kk
theorem gf_X5_135 {p : Program} {l : Launch} {e : Env} {R : Room} {s : State} {m : MethodId} {args : Array Value} {below : List Frame} {meth : Method} {c : Code} {H : Heap} {locs : List Loc} {cells slots : Nat} {Q : State → Prop} {D : va_G} {Y : CYs} {E : Nat → Nat} {σ : Sta} {cc : ByteArray} {pc : Nat} {ls : Array Slot} {rest : List Value} (hC : Ctx p s m args RX5 D Y) (hb : c.code = cc) (hP : va_P D vwCl (wd Y E σ 0 LC) H) (hdg : decode cc pc = .ok (.getfield 135, 3)) (kk : W p l e R s m args below meth c H locs cells slots Q (F0 m (pc + 3) ls (.ref (E 22) :: rest))) : W p l e R s m args below meth c H locs cells slots Q (F0 m pc ls (.ref (E 3) :: rest)) :=
  x_getRN hC hb hP inGX4 lc_3 rfl 4 (by decide) rfl (List.mem_of_getElem? (i := 11) rfl) rfl hdg kk
theorem pf_X5_43 {p : Program} {l : Launch} {e : Env} {R : Room} {s : State} {m : MethodId} {args : Array Value} {below : List Frame} {meth : Method} {c : Code} {H : Heap} {locs : List Loc} {cells slots : Nat} {Q : State → Prop} {D : va_G} {Y : CYs} {E : Nat → Nat} {σ : Sta} {cc : ByteArray} {pc : Nat} {ls : Array Slot} {rest : List Value} {A : Nat → Prop} {H0 : Heap} {x : Int32} (hC : Ctx p s m args RX5 D Y) (hb : c.code = cc) (hP : va_P D vwCl (wd Y E σ 0 LC) H) (hD : ∀ τ, va_D A (wd Y E τ 0 LC)) (hS : va_S A H0 H locs) (hdg : decode cc pc = .ok (.putfield 43, 3)) (kk : ∀ (H1 : Heap) (locs1 : List Loc) (τ : Sta), τ = sI σ 329 x → va_P D vwCl (wd Y E τ 0 LC) H1 → va_S A H0 H1 locs1 → W p l e R s m args below meth c H1 locs1 cells slots Q (F0 m (pc + 3) ls rest)) : W p l e R s m args below meth c H locs cells slots Q (F0 m pc ls (.int x :: .ref (E 5) :: rest)) :=
  x_putI lokC hC hb hP hD hS inGX5 tyX5 tyX5_ok nmX5 lc_5 rfl 9 (by decide) rfl (gw_t (tb1 (List.mem_of_getElem? (i := 223) rfl)) rfl) rfl rfl rfl rfl rfl hdg kk
theorem gf_X5_138 {p : Program} {l : Launch} {e : Env} {R : Room} {s : State} {m : MethodId} {args : Array Value} {below : List Frame} {meth : Method} {c : Code} {H : Heap} {locs : List Loc} {cells slots : Nat} {Q : State → Prop} {D : va_G} {Y : CYs} {E : Nat → Nat} {σ : Sta} {cc : ByteArray} {pc : Nat} {ls : Array Slot} {rest : List Value} (hC : Ctx p s m args RX5 D Y) (hb : c.code = cc) (hP : va_P D vwCl (wd Y E σ 0 LC) H) (hdg : decode cc pc = .ok (.getfield 138, 3)) (kk : W p l e R s m args below meth c H locs cells slots Q (F0 m (pc + 3) ls (.ref (E 27) :: rest))) : W p l e R s m args below meth c H locs cells slots Q (F0 m pc ls (.ref (E 3) :: rest)) :=
  x_getRN hC hb hP inGX4 lc_3 rfl 12 (by decide) rfl (List.mem_of_getElem? (i := 23) rfl) rfl hdg kk
theorem pf_X5_46 {p : Program} {l : Launch} {e : Env} {R : Room} {s : State} {m : MethodId} {args : Array Value} {below : List Frame} {meth : Method} {c : Code} {H : Heap} {locs : List Loc} {cells slots : Nat} {Q : State → Prop} {D : va_G} {Y : CYs} {E : Nat → Nat} {σ : Sta} {cc : ByteArray} {pc : Nat} {ls : Array Slot} {rest : List Value} {A : Nat → Prop} {H0 : Heap} {x : Int32} (hC : Ctx p s m args RX5 D Y) (hb : c.code = cc) (hP : va_P D vwCl (wd Y E σ 0 LC) H) (hD : ∀ τ, va_D A (wd Y E τ 0 LC)) (hS : va_S A H0 H locs) (hdg : decode cc pc = .ok (.putfield 46, 3)) (kk : ∀ (H1 : Heap) (locs1 : List Loc) (τ : Sta), τ = sI σ 330 x → va_P D vwCl (wd Y E τ 0 LC) H1 → va_S A H0 H1 locs1 → W p l e R s m args below meth c H1 locs1 cells slots Q (F0 m (pc + 3) ls rest)) : W p l e R s m args below meth c H locs cells slots Q (F0 m pc ls (.int x :: .ref (E 5) :: rest)) :=
  x_putI lokC hC hb hP hD hS inGX5 tyX5 tyX5_ok nmX5 lc_5 rfl 10 (by decide) rfl (gw_t (tb1 (List.mem_of_getElem? (i := 224) rfl)) rfl) rfl rfl rfl rfl rfl hdg kk
theorem gf_X5_72 {p : Program} {l : Launch} {e : Env} {R : Room} {s : State} {m : MethodId} {args : Array Value} {below : List Frame} {meth : Method} {c : Code} {H : Heap} {locs : List Loc} {cells slots : Nat} {Q : State → Prop} {D : va_G} {Y : CYs} {E : Nat → Nat} {σ : Sta} {cc : ByteArray} {pc : Nat} {ls : Array Slot} {rest : List Value} (hC : Ctx p s m args RX5 D Y) (hb : c.code = cc) (hP : va_P D vwCl (wd Y E σ 0 LC) H) (hdg : decode cc pc = .ok (.getfield 72, 3)) (kk : W p l e R s m args below meth c H locs cells slots Q (F0 m (pc + 3) ls (.ref (E 29) :: rest))) : W p l e R s m args below meth c H locs cells slots Q (F0 m pc ls (.ref (E 3) :: rest)) :=
  x_getRN hC hb hP inGX4 lc_3 rfl 14 (by decide) rfl (List.mem_of_getElem? (i := 25) rfl) rfl hdg kk
theorem cw_X5_118 {R : Room} {p : Program} {s : State} {m : MethodId} {args : Array Value} {D : va_G} {Y : CYs} {rm : Room} (hC : Ctx p s m args RX5 D Y) (hrc : rm.cells = 0) (hrs : rm.slots = 0) (hR : rm.frames + 1 ≤ R.frames ∧ 8 + (8 + 11) + rm.locals ≤ R.locals) : CallW R s args RX5 RX5 118 yX5_reckonNext cX5_reckonNext 8 (some .boolean) (Cond.code yX5_reckonNext cX5_reckonNext 8 (some .boolean) :: gW) rm 0 0 2 :=
  cwV 2 hC.2.1 (gi_V (gw_t (tb6 (List.mem_of_getElem? (i := 139) rfl)) rfl) (gw_t (tb6 (List.mem_of_getElem? (i := 141) rfl)) rfl) (gw_s (q := (⟨"MarkovBench$States", "reckonNext", "(II)Z"⟩, 11)) (lp4_ (List.mem_of_getElem? (i := 3) rfl))) (gw_t (tb1 (List.mem_of_getElem? (i := 6) rfl)) rfl) (gw_t (tb6 (List.mem_of_getElem? (i := 142) rfl)) rfl)) rfl hrc hrs ⟨rfl, by decide +kernel, by decide +kernel, by decide +kernel⟩ hR
theorem cw_X5_125 {R : Room} {p : Program} {s : State} {m : MethodId} {args : Array Value} {D : va_G} {Y : CYs} {rm : Room} (hC : Ctx p s m args RX5 D Y) (hrc : rm.cells = 0) (hrs : rm.slots = 0) (hR : rm.frames + 1 ≤ R.frames ∧ 8 + (4 + 11) + rm.locals ≤ R.locals) : CallW R s args RX5 RX5 125 yX5_placeOfNext cX5_placeOfNext 4 (some .int) (Cond.code yX5_placeOfNext cX5_placeOfNext 4 (some .int) :: gW) rm 0 0 0 :=
  cwV 0 hC.2.1 (gi_V (gw_t (tb6 (List.mem_of_getElem? (i := 147) rfl)) rfl) (gw_t (tb6 (List.mem_of_getElem? (i := 149) rfl)) rfl) (gw_s (q := (⟨"MarkovBench$States", "placeOfNext", "()I"⟩, 11)) (lp4_ (List.mem_of_getElem? (i := 5) rfl))) (gw_t (tb1 (List.mem_of_getElem? (i := 6) rfl)) rfl) (gw_t (tb6 (List.mem_of_getElem? (i := 150) rfl)) rfl)) rfl hrc hrs ⟨rfl, by decide +kernel, by decide +kernel, by decide +kernel⟩ hR
theorem cw_X5_60 {R : Room} {p : Program} {s : State} {m : MethodId} {args : Array Value} {D : va_G} {Y : CYs} {rm : Room} (hC : Ctx p s m args RX5 D Y) (hrc : rm.cells = 0) (hrs : rm.slots = 0) (hR : rm.frames + 1 ≤ R.frames ∧ 8 + (1 + 11) + rm.locals ≤ R.locals) : CallW R s args RX5 RX5 60 yX5_addNext cX5_addNext 1 (some .boolean) (Cond.code yX5_addNext cX5_addNext 1 (some .boolean) :: gW) rm 0 0 0 :=
  cwV 0 hC.2.1 (gi_V (gw_t (tb6 (List.mem_of_getElem? (i := 97) rfl)) rfl) (gw_t (tb6 (List.mem_of_getElem? (i := 99) rfl)) rfl) (gw_s (q := (⟨"MarkovBench$States", "addNext", "()Z"⟩, 11)) (lp3_ (List.mem_of_getElem? (i := 15) rfl))) (gw_t (tb1 (List.mem_of_getElem? (i := 6) rfl)) rfl) (gw_t (tb6 (List.mem_of_getElem? (i := 100) rfl)) rfl)) rfl hrc hrs ⟨rfl, by decide +kernel, by decide +kernel, by decide +kernel⟩ hR
theorem cw_X5_122 {R : Room} {p : Program} {s : State} {m : MethodId} {args : Array Value} {D : va_G} {Y : CYs} {rm : Room} (hC : Ctx p s m args RX5 D Y) (hrc : rm.cells = 0) (hrs : rm.slots = 0) (hR : rm.frames + 1 ≤ R.frames ∧ 8 + (3 + 11) + rm.locals ≤ R.locals) : CallW R s args RX5 RX5 122 yX5_fail cX5_fail 3 none (Cond.code yX5_fail cX5_fail 3 none :: gW) rm 0 0 2 :=
  cwV 2 hC.2.1 (gi_V (gw_t (tb6 (List.mem_of_getElem? (i := 143) rfl)) rfl) (gw_t (tb6 (List.mem_of_getElem? (i := 145) rfl)) rfl) (gw_s (q := (⟨"MarkovBench$States", "fail", "(II)V"⟩, 11)) (lp4_ (List.mem_of_getElem? (i := 4) rfl))) (gw_t (tb1 (List.mem_of_getElem? (i := 6) rfl)) rfl) (gw_t (tb6 (List.mem_of_getElem? (i := 146) rfl)) rfl)) rfl hrc hrs ⟨rfl, by decide +kernel, by decide +kernel, by decide +kernel⟩ hR
theorem gf_X5_21 {p : Program} {l : Launch} {e : Env} {R : Room} {s : State} {m : MethodId} {args : Array Value} {below : List Frame} {meth : Method} {c : Code} {H : Heap} {locs : List Loc} {cells slots : Nat} {Q : State → Prop} {D : va_G} {Y : CYs} {E : Nat → Nat} {σ : Sta} {cc : ByteArray} {pc : Nat} {ls : Array Slot} {rest : List Value} (hC : Ctx p s m args RX5 D Y) (hb : c.code = cc) (hP : va_P D vwCl (wd Y E σ 0 LC) H) (hdg : decode cc pc = .ok (.getfield 21, 3)) (kk : W p l e R s m args below meth c H locs cells slots Q (F0 m (pc + 3) ls (.ref (E 35) :: rest))) : W p l e R s m args below meth c H locs cells slots Q (F0 m pc ls (.ref (E 5) :: rest)) :=
  x_getR hC hb hP inGX5 lc_5 rfl 6 (by decide) rfl (gw_t (tb1 (List.mem_of_getElem? (i := 220) rfl)) rfl) rfl hdg kk
theorem gf_X5_15 {p : Program} {l : Launch} {e : Env} {R : Room} {s : State} {m : MethodId} {args : Array Value} {below : List Frame} {meth : Method} {c : Code} {H : Heap} {locs : List Loc} {cells slots : Nat} {Q : State → Prop} {D : va_G} {Y : CYs} {E : Nat → Nat} {σ : Sta} {cc : ByteArray} {pc : Nat} {ls : Array Slot} {rest : List Value} (hC : Ctx p s m args RX5 D Y) (hb : c.code = cc) (hP : va_P D vwCl (wd Y E σ 0 LC) H) (hdg : decode cc pc = .ok (.getfield 15, 3)) (kk : W p l e R s m args below meth c H locs cells slots Q (F0 m (pc + 3) ls (.ref (E 33) :: rest))) : W p l e R s m args below meth c H locs cells slots Q (F0 m pc ls (.ref (E 5) :: rest)) :=
  x_getR hC hb hP inGX5 lc_5 rfl 4 (by decide) rfl (gw_t (tb1 (List.mem_of_getElem? (i := 216) rfl)) rfl) rfl hdg kk
theorem gf_X5_18 {p : Program} {l : Launch} {e : Env} {R : Room} {s : State} {m : MethodId} {args : Array Value} {below : List Frame} {meth : Method} {c : Code} {H : Heap} {locs : List Loc} {cells slots : Nat} {Q : State → Prop} {D : va_G} {Y : CYs} {E : Nat → Nat} {σ : Sta} {cc : ByteArray} {pc : Nat} {ls : Array Slot} {rest : List Value} (hC : Ctx p s m args RX5 D Y) (hb : c.code = cc) (hP : va_P D vwCl (wd Y E σ 0 LC) H) (hdg : decode cc pc = .ok (.getfield 18, 3)) (kk : W p l e R s m args below meth c H locs cells slots Q (F0 m (pc + 3) ls (.ref (E 34) :: rest))) : W p l e R s m args below meth c H locs cells slots Q (F0 m pc ls (.ref (E 5) :: rest)) :=
  x_getR hC hb hP inGX5 lc_5 rfl 5 (by decide) rfl (gw_t (tb1 (List.mem_of_getElem? (i := 219) rfl)) rfl) rfl hdg kk
theorem gf_X5_93 {p : Program} {l : Launch} {e : Env} {R : Room} {s : State} {m : MethodId} {args : Array Value} {below : List Frame} {meth : Method} {c : Code} {H : Heap} {locs : List Loc} {cells slots : Nat} {Q : State → Prop} {D : va_G} {Y : CYs} {E : Nat → Nat} {σ : Sta} {cc : ByteArray} {pc : Nat} {ls : Array Slot} {rest : List Value} (hC : Ctx p s m args RX5 D Y) (hb : c.code = cc) (hP : va_P D vwCl (wd Y E σ 0 LC) H) (hdg : decode cc pc = .ok (.getfield 93, 3)) (kk : W p l e R s m args below meth c H locs cells slots Q (F0 m (pc + 3) ls (.int (gI σ 197) :: rest))) : W p l e R s m args below meth c H locs cells slots Q (F0 m pc ls (.ref (E 3) :: rest)) :=
  x_getIN hC hb hP inGX4 lc_3 rfl 5 (by decide) rfl (List.mem_of_getElem? (i := 15) rfl) rfl hdg kk
theorem gf_X5_105 {p : Program} {l : Launch} {e : Env} {R : Room} {s : State} {m : MethodId} {args : Array Value} {below : List Frame} {meth : Method} {c : Code} {H : Heap} {locs : List Loc} {cells slots : Nat} {Q : State → Prop} {D : va_G} {Y : CYs} {E : Nat → Nat} {σ : Sta} {cc : ByteArray} {pc : Nat} {ls : Array Slot} {rest : List Value} (hC : Ctx p s m args RX5 D Y) (hb : c.code = cc) (hP : va_P D vwCl (wd Y E σ 0 LC) H) (hdg : decode cc pc = .ok (.getfield 105, 3)) (kk : W p l e R s m args below meth c H locs cells slots Q (F0 m (pc + 3) ls (.int (gI σ 201) :: rest))) : W p l e R s m args below meth c H locs cells slots Q (F0 m pc ls (.ref (E 3) :: rest)) :=
  x_getIN hC hb hP inGX4 lc_3 rfl 9 (by decide) rfl (List.mem_of_getElem? (i := 19) rfl) rfl hdg kk
theorem gf_X5_24 {p : Program} {l : Launch} {e : Env} {R : Room} {s : State} {m : MethodId} {args : Array Value} {below : List Frame} {meth : Method} {c : Code} {H : Heap} {locs : List Loc} {cells slots : Nat} {Q : State → Prop} {D : va_G} {Y : CYs} {E : Nat → Nat} {σ : Sta} {cc : ByteArray} {pc : Nat} {ls : Array Slot} {rest : List Value} (hC : Ctx p s m args RX5 D Y) (hb : c.code = cc) (hP : va_P D vwCl (wd Y E σ 0 LC) H) (hdg : decode cc pc = .ok (.getfield 24, 3)) (kk : W p l e R s m args below meth c H locs cells slots Q (F0 m (pc + 3) ls (.ref (E 36) :: rest))) : W p l e R s m args below meth c H locs cells slots Q (F0 m pc ls (.ref (E 5) :: rest)) :=
  x_getR hC hb hP inGX5 lc_5 rfl 7 (by decide) rfl (gw_t (tb1 (List.mem_of_getElem? (i := 221) rfl)) rfl) rfl hdg kk
theorem gf_X5_96 {p : Program} {l : Launch} {e : Env} {R : Room} {s : State} {m : MethodId} {args : Array Value} {below : List Frame} {meth : Method} {c : Code} {H : Heap} {locs : List Loc} {cells slots : Nat} {Q : State → Prop} {D : va_G} {Y : CYs} {E : Nat → Nat} {σ : Sta} {cc : ByteArray} {pc : Nat} {ls : Array Slot} {rest : List Value} (hC : Ctx p s m args RX5 D Y) (hb : c.code = cc) (hP : va_P D vwCl (wd Y E σ 0 LC) H) (hdg : decode cc pc = .ok (.getfield 96, 3)) (kk : W p l e R s m args below meth c H locs cells slots Q (F0 m (pc + 3) ls (.ref (E 25) :: rest))) : W p l e R s m args below meth c H locs cells slots Q (F0 m pc ls (.ref (E 3) :: rest)) :=
  x_getRN hC hb hP inGX4 lc_3 rfl 8 (by decide) rfl (List.mem_of_getElem? (i := 17) rfl) rfl hdg kk
theorem gf_X5_108 {p : Program} {l : Launch} {e : Env} {R : Room} {s : State} {m : MethodId} {args : Array Value} {below : List Frame} {meth : Method} {c : Code} {H : Heap} {locs : List Loc} {cells slots : Nat} {Q : State → Prop} {D : va_G} {Y : CYs} {E : Nat → Nat} {σ : Sta} {cc : ByteArray} {pc : Nat} {ls : Array Slot} {rest : List Value} (hC : Ctx p s m args RX5 D Y) (hb : c.code = cc) (hP : va_P D vwCl (wd Y E σ 0 LC) H) (hdg : decode cc pc = .ok (.getfield 108, 3)) (kk : W p l e R s m args below meth c H locs cells slots Q (F0 m (pc + 3) ls (.int (gI σ 202) :: rest))) : W p l e R s m args below meth c H locs cells slots Q (F0 m pc ls (.ref (E 3) :: rest)) :=
  x_getIN hC hb hP inGX4 lc_3 rfl 10 (by decide) rfl (List.mem_of_getElem? (i := 22) rfl) rfl hdg kk
theorem gf_X5_43 {p : Program} {l : Launch} {e : Env} {R : Room} {s : State} {m : MethodId} {args : Array Value} {below : List Frame} {meth : Method} {c : Code} {H : Heap} {locs : List Loc} {cells slots : Nat} {Q : State → Prop} {D : va_G} {Y : CYs} {E : Nat → Nat} {σ : Sta} {cc : ByteArray} {pc : Nat} {ls : Array Slot} {rest : List Value} (hC : Ctx p s m args RX5 D Y) (hb : c.code = cc) (hP : va_P D vwCl (wd Y E σ 0 LC) H) (hdg : decode cc pc = .ok (.getfield 43, 3)) (kk : W p l e R s m args below meth c H locs cells slots Q (F0 m (pc + 3) ls (.int (gI σ 329) :: rest))) : W p l e R s m args below meth c H locs cells slots Q (F0 m pc ls (.ref (E 5) :: rest)) :=
  x_getI hC hb hP inGX5 lc_5 rfl 9 (by decide) rfl (gw_t (tb1 (List.mem_of_getElem? (i := 223) rfl)) rfl) rfl hdg kk
theorem gf_X5_111 {p : Program} {l : Launch} {e : Env} {R : Room} {s : State} {m : MethodId} {args : Array Value} {below : List Frame} {meth : Method} {c : Code} {H : Heap} {locs : List Loc} {cells slots : Nat} {Q : State → Prop} {D : va_G} {Y : CYs} {E : Nat → Nat} {σ : Sta} {cc : ByteArray} {pc : Nat} {ls : Array Slot} {rest : List Value} (hC : Ctx p s m args RX5 D Y) (hb : c.code = cc) (hP : va_P D vwCl (wd Y E σ 0 LC) H) (hdg : decode cc pc = .ok (.getfield 111, 3)) (kk : W p l e R s m args below meth c H locs cells slots Q (F0 m (pc + 3) ls (.ref (E 28) :: rest))) : W p l e R s m args below meth c H locs cells slots Q (F0 m pc ls (.ref (E 3) :: rest)) :=
  x_getRN hC hb hP inGX4 lc_3 rfl 13 (by decide) rfl (List.mem_of_getElem? (i := 24) rfl) rfl hdg kk
theorem cw_X5_114 {R : Room} {p : Program} {s : State} {m : MethodId} {args : Array Value} {D : va_G} {Y : CYs} {rm : Room} (hC : Ctx p s m args RX5 D Y) (hrc : rm.cells = 0) (hrs : rm.slots = 0) (hR : rm.frames + 1 ≤ R.frames ∧ 8 + (6 + 11) + rm.locals ≤ R.locals) : CallW R s args RX5 RX5 114 yX5_addChoice cX5_addChoice 6 none (Cond.code yX5_addChoice cX5_addChoice 6 none :: gW) rm 0 0 2 :=
  cwV 2 hC.2.1 (gi_V (gw_t (tb6 (List.mem_of_getElem? (i := 135) rfl)) rfl) (gw_t (tb6 (List.mem_of_getElem? (i := 137) rfl)) rfl) (gw_s (q := (⟨"MarkovBench$States", "addChoice", "(II)V"⟩, 11)) (lp4_ (List.mem_of_getElem? (i := 2) rfl))) (gw_t (tb1 (List.mem_of_getElem? (i := 6) rfl)) rfl) (gw_t (tb6 (List.mem_of_getElem? (i := 138) rfl)) rfl)) rfl hrc hrs ⟨rfl, by decide +kernel, by decide +kernel, by decide +kernel⟩ hR
theorem cw_X5_64 {R : Room} {p : Program} {s : State} {m : MethodId} {args : Array Value} {D : va_G} {Y : CYs} {rm : Room} (hC : Ctx p s m args RX5 D Y) (hrc : rm.cells = 0) (hrs : rm.slots = 0) (hR : rm.frames + 1 ≤ R.frames ∧ 8 + (5 + 11) + rm.locals ≤ R.locals) : CallW R s args RX5 RX5 64 yX5_visit cX5_visit 5 none (Cond.code yX5_visit cX5_visit 5 none :: gW) rm 0 0 1 :=
  cwV 1 hC.2.1 (gi_V (gw_t (tb6 (List.mem_of_getElem? (i := 101) rfl)) rfl) (gw_t (tb6 (List.mem_of_getElem? (i := 103) rfl)) rfl) (gw_s (q := (⟨"MarkovBench$States", "visit", "(I)V"⟩, 11)) (lp4_ (List.mem_of_getElem? (i := 0) rfl))) (gw_t (tb1 (List.mem_of_getElem? (i := 6) rfl)) rfl) (gw_t (tb6 (List.mem_of_getElem? (i := 104) rfl)) rfl)) rfl hrc hrs ⟨rfl, by decide +kernel, by decide +kernel, by decide +kernel⟩ hR
theorem gf_X5_49 {p : Program} {l : Launch} {e : Env} {R : Room} {s : State} {m : MethodId} {args : Array Value} {below : List Frame} {meth : Method} {c : Code} {H : Heap} {locs : List Loc} {cells slots : Nat} {Q : State → Prop} {D : va_G} {Y : CYs} {E : Nat → Nat} {σ : Sta} {cc : ByteArray} {pc : Nat} {ls : Array Slot} {rest : List Value} (hC : Ctx p s m args RX5 D Y) (hb : c.code = cc) (hP : va_P D vwCl (wd Y E σ 0 LC) H) (hdg : decode cc pc = .ok (.getfield 49, 3)) (kk : W p l e R s m args below meth c H locs cells slots Q (F0 m (pc + 3) ls (.ref (E 20) :: rest))) : W p l e R s m args below meth c H locs cells slots Q (F0 m pc ls (.ref (E 3) :: rest)) :=
  x_getRN hC hb hP inGX4 lc_3 rfl 2 (by decide) rfl (List.mem_of_getElem? (i := 9) rfl) rfl hdg kk
theorem cw_X5_68 {R : Room} {p : Program} {s : State} {m : MethodId} {args : Array Value} {D : va_G} {Y : CYs} {rm : Room} (hC : Ctx p s m args RX5 D Y) (hrc : rm.cells = 0) (hrs : rm.slots = 0) (hR : rm.frames + 1 ≤ R.frames ∧ 8 + (2 + 11) + rm.locals ≤ R.locals) : va_CN R s args RX5 68 yX8_entry "MarkovBench" cX8_entry 2 (some .int) (Cond.code yX8_entry cX8_entry 2 (some .int) :: gW) rm 0 0 2 ∧ (Cond.static yX8_entry).before args s = true :=
  ⟨va_cnB 2 hC.2.1 (gi_law (gw_t (tb2 (List.mem_of_getElem? (i := 219) rfl)) rfl)) rfl hrc hrs (hC.2.2.2.2.1 (Cond.methodLinkNest RX5 68 yX8_entry "MarkovBench") (List.mem_of_getElem? (i := 48) rfl)) (hC.2.1 (Cond.initialized RX8) (gw_t (tb1 (List.mem_of_getElem? (i := 1) rfl)) rfl)) ⟨by decide +kernel, by decide +kernel, by decide +kernel⟩ hR, hC.2.1 _ (gw_t (tb2 (List.mem_of_getElem? (i := 218) rfl)) rfl)⟩
theorem cw_X5_75 {R : Room} {p : Program} {s : State} {m : MethodId} {args : Array Value} {D : va_G} {Y : CYs} {rm : Room} (hC : Ctx p s m args RX5 D Y) (hrc : rm.cells = 0) (hrs : rm.slots = 0) (hR : rm.frames + 1 ≤ R.frames ∧ 8 + (3 + 11) + rm.locals ≤ R.locals) : CallW R s args RX5 RX5 75 yX5_commandOf cX5_commandOf 3 (some .int) (Cond.code yX5_commandOf cX5_commandOf 3 (some .int) :: gW) rm 0 0 2 :=
  cwV 2 hC.2.1 (gi_V (gw_t (tb2 (List.mem_of_getElem? (i := 224) rfl)) rfl) (gw_t (tb2 (List.mem_of_getElem? (i := 214) rfl)) rfl) (gw_t (tb2 (List.mem_of_getElem? (i := 215) rfl)) rfl) (gw_t (tb1 (List.mem_of_getElem? (i := 6) rfl)) rfl) (gw_t (tb2 (List.mem_of_getElem? (i := 216) rfl)) rfl)) rfl hrc hrs ⟨rfl, by decide +kernel, by decide +kernel, by decide +kernel⟩ hR
theorem gf_X5_79 {p : Program} {l : Launch} {e : Env} {R : Room} {s : State} {m : MethodId} {args : Array Value} {below : List Frame} {meth : Method} {c : Code} {H : Heap} {locs : List Loc} {cells slots : Nat} {Q : State → Prop} {D : va_G} {Y : CYs} {E : Nat → Nat} {σ : Sta} {cc : ByteArray} {pc : Nat} {ls : Array Slot} {rest : List Value} (hC : Ctx p s m args RX5 D Y) (hb : c.code = cc) (hP : va_P D vwCl (wd Y E σ 0 LC) H) (hdg : decode cc pc = .ok (.getfield 79, 3)) (kk : W p l e R s m args below meth c H locs cells slots Q (F0 m (pc + 3) ls (.ref (E 30) :: rest))) : W p l e R s m args below meth c H locs cells slots Q (F0 m pc ls (.ref (E 3) :: rest)) :=
  x_getRN hC hb hP inGX4 lc_3 rfl 15 (by decide) rfl (List.mem_of_getElem? (i := 26) rfl) rfl hdg kk
theorem cw_X5_85 {R : Room} {p : Program} {s : State} {m : MethodId} {args : Array Value} {D : va_G} {Y : CYs} {rm : Room} (hC : Ctx p s m args RX5 D Y) (hrc : rm.cells = 0) (hrs : rm.slots = 0) (hR : rm.frames + 1 ≤ R.frames ∧ 8 + (2 + 11) + rm.locals ≤ R.locals) : va_CN R s args RX5 85 yX8_entry_ "MarkovBench" cX8_entry_ 2 (some .long) (Cond.code yX8_entry_ cX8_entry_ 2 (some .long) :: gW) rm 0 0 2 ∧ (Cond.static yX8_entry_).before args s = true :=
  ⟨va_cnB 2 hC.2.1 (gi_law (gw_t (tb2 (List.mem_of_getElem? (i := 239) rfl)) rfl)) rfl hrc hrs (hC.2.2.2.2.1 (Cond.methodLinkNest RX5 85 yX8_entry_ "MarkovBench") (List.mem_of_getElem? (i := 49) rfl)) (hC.2.1 (Cond.initialized RX8) (gw_t (tb1 (List.mem_of_getElem? (i := 1) rfl)) rfl)) ⟨by decide +kernel, by decide +kernel, by decide +kernel⟩ hR, hC.2.1 _ (gw_t (tb2 (List.mem_of_getElem? (i := 238) rfl)) rfl)⟩
theorem gf_X5_82 {p : Program} {l : Launch} {e : Env} {R : Room} {s : State} {m : MethodId} {args : Array Value} {below : List Frame} {meth : Method} {c : Code} {H : Heap} {locs : List Loc} {cells slots : Nat} {Q : State → Prop} {D : va_G} {Y : CYs} {E : Nat → Nat} {σ : Sta} {cc : ByteArray} {pc : Nat} {ls : Array Slot} {rest : List Value} (hC : Ctx p s m args RX5 D Y) (hb : c.code = cc) (hP : va_P D vwCl (wd Y E σ 0 LC) H) (hdg : decode cc pc = .ok (.getfield 82, 3)) (kk : W p l e R s m args below meth c H locs cells slots Q (F0 m (pc + 3) ls (.ref (E 24) :: rest))) : W p l e R s m args below meth c H locs cells slots Q (F0 m pc ls (.ref (E 3) :: rest)) :=
  x_getRN hC hb hP inGX4 lc_3 rfl 7 (by decide) rfl (List.mem_of_getElem? (i := 16) rfl) rfl hdg kk
theorem gf_X6_15 {p : Program} {l : Launch} {e : Env} {R : Room} {s : State} {m : MethodId} {args : Array Value} {below : List Frame} {meth : Method} {c : Code} {H : Heap} {locs : List Loc} {cells slots : Nat} {Q : State → Prop} {D : va_G} {Y : CYs} {E : Nat → Nat} {σ : Sta} {cc : ByteArray} {pc : Nat} {ls : Array Slot} {rest : List Value} (hC : Ctx p s m args RX6 D Y) (hb : c.code = cc) (hP : va_P D vwCl (wd Y E σ 0 LC) H) {d : Nat} (hd : d < 13) (hdg : decode cc pc = .ok (.getfield 15, 3)) (kk : W p l e R s m args below meth c H locs cells slots Q (F0 m (pc + 3) ls (.ref (E (41 + 5 * d + 2)) :: rest))) : W p l e R s m args below meth c H locs cells slots Q (F0 m pc ls (.ref (E (41 + 5 * d)) :: rest)) :=
  x_getR hC hb hP inGX6 (lc_s0 hd) rfl 2 (by decide) rfl (gw_t (tb2 (List.mem_of_getElem? (i := 55) rfl)) rfl) rfl hdg kk
theorem cw_X6_25 {R : Room} {p : Program} {s : State} {m : MethodId} {args : Array Value} {D : va_G} {Y : CYs} {rm : Room} (hC : Ctx p s m args RX6 D Y) (hrc : rm.cells = 0) (hrs : rm.slots = 0) (hR : rm.frames + 1 ≤ R.frames ∧ 8 + (2 + 11) + rm.locals ≤ R.locals) : va_CN R s args RX6 25 yX8_entry "MarkovBench" cX8_entry 2 (some .int) (Cond.code yX8_entry cX8_entry 2 (some .int) :: gW) rm 0 0 2 ∧ (Cond.static yX8_entry).before args s = true :=
  ⟨va_cnB 2 hC.2.1 (gi_law (gw_t (tb2 (List.mem_of_getElem? (i := 219) rfl)) rfl)) rfl hrc hrs (hC.2.2.2.2.1 (Cond.methodLinkNest RX6 25 yX8_entry "MarkovBench") (List.mem_of_getElem? (i := 51) rfl)) (hC.2.1 (Cond.initialized RX8) (gw_t (tb1 (List.mem_of_getElem? (i := 1) rfl)) rfl)) ⟨by decide +kernel, by decide +kernel, by decide +kernel⟩ hR, hC.2.1 _ (gw_t (tb2 (List.mem_of_getElem? (i := 218) rfl)) rfl)⟩
abbrev rm_X5_clear : Room := { frames := 0, cells := 0, slots := 0, locals := 0 }
def f_X5_clear (σ : Sta) : Option (Unit × Sta) :=
  lt (sI σ 322 0) (fun σ1 =>
  some ((), σ1))
set_option maxHeartbeats 4000000 in
set_option maxRecDepth 100000 in
theorem c_X5_clear {l : Launch} {D : va_G} {Y : CYs} {E : Nat → Nat} {σ : Sta} {o : Unit × Sta} (h : f_X5_clear σ = some o) : MV l yX5_clear (Cond.code yX5_clear cX5_clear 1 none :: gW) rm_X5_clear LC Y D E [.ref (E 5)] σ o := by
  intro sz
  refine Met_of (Qc := fun sz => QV LC Y D E sz o) (by decide) (Nat.le_of_ble_eq_true rfl) (fun p e s m args below meth c hF hP ls hl => ?_) sz
  have hS : va_S (AF E LC.length s.heap.size) s.heap s.heap [] := va_S.rf
  have hl : lv_has ls 1 [(0, .ref (E 5))] := hl
  show WV p l e rm_X5_clear s m args below meth c LC Y D E o s.heap [] (F0 m 0 ls [])
  unfold f_X5_clear at h
  obtain ⟨hC, hb, hml, hr, hlk, hD, hSW⟩ := id hF
  have hx := hC.1
  refine lv_aload_n hx hb dX5_clear_0 rfl (lv_at hl 0 rfl) ?_
  refine lv_iconst (v := 0) hx hb dX5_clear_1 (by decide) ?_
  refine pf_X5_39 hC hb hP hD hS dX5_clear_2 (fun H locs σ1 eσ1 hP hS => ?_)
  have h := of_lt h eσ1
  exact x_vret hF hP hS h dX5_clear_5

abbrev rm_X5_addNext : Room := { frames := 1, cells := 0, slots := 0, locals := 41 }
def f_X5_addNext (σ : Sta) : Option (Int32 × Sta) :=
  if gI σ 322 < 100 then
    if (0 : Int32) < 0 ∨ (gI σ 322) * 6 < 0 ∨ (6 : Int32) < 0 ∨ 6 < ((0 : Int32).toNatClampNeg) + ((6 : Int32).toNatClampNeg) ∨ 600 < (((gI σ 322) * 6).toNatClampNeg) + ((6 : Int32).toNatClampNeg) then none else (
    lt (sA σ 32 (va_cpy (gA σ 37) (gA σ 32) ((0 : Int32).toNatClampNeg) (((gI σ 322) * 6).toNatClampNeg) ((6 : Int32).toNatClampNeg))) (fun σ3 =>
    lt (sI σ3 322 ((gI σ3 322) + 1)) (fun σ4 =>
    some (1, σ4))))
  else
    some (0, σ)
set_option maxHeartbeats 4000000 in
set_option maxRecDepth 100000 in
theorem c_X5_addNext {l : Launch} {D : va_G} {Y : CYs} {E : Nat → Nat} {σ : Sta} {o : Int32 × Sta} (h : f_X5_addNext σ = some o) : MI l yX5_addNext (Cond.code yX5_addNext cX5_addNext 1 (some .boolean) :: gW) rm_X5_addNext LC Y D E [.ref (E 5)] σ o := by
  intro sz
  refine Met_of (Qc := fun sz => QI LC Y D E sz o) (by decide) (Nat.le_of_ble_eq_true rfl) (fun p e s m args below meth c hF hP ls hl => ?_) sz
  have hS : va_S (AF E LC.length s.heap.size) s.heap s.heap [] := va_S.rf
  have hl : lv_has ls 1 [(0, .ref (E 5))] := hl
  show WI p l e rm_X5_addNext s m args below meth c LC Y D E o s.heap [] (F0 m 0 ls [])
  unfold f_X5_addNext at h
  obtain ⟨hC, hb, hml, hr, hlk, hD, hSW⟩ := id hF
  have hx := hC.1
  refine lv_aload_n hx hb dX5_addNext_0 rfl (lv_at hl 0 rfl) ?_
  refine gf_X5_39 hC hb hP dX5_addNext_1 ?_
  refine lv_bipush (v := 100) hx hb dX5_addNext_4 (by decide) ?_
  refine lv_icmp_lt (tgt := 11) hx hb dX5_addNext_6 (by decide) (fun c1 => ?_) (fun c1 => ?_)
  · have h := of_t h c1
    refine lv_aload_n hx hb dX5_addNext_11 rfl (lv_at hl 0 rfl) ?_
    refine gf_X5_28 hC hb hP dX5_addNext_12 ?_
    refine lv_iconst (v := 0) hx hb dX5_addNext_15 (by decide) ?_
    refine lv_aload_n hx hb dX5_addNext_16 rfl (lv_at hl 0 rfl) ?_
    refine gf_X5_9 hC hb hP dX5_addNext_17 ?_
    refine lv_aload_n hx hb dX5_addNext_20 rfl (lv_at hl 0 rfl) ?_
    refine gf_X5_39 hC hb hP dX5_addNext_21 ?_
    refine lv_bipush (v := 6) hx hb dX5_addNext_24 (by decide) ?_
    refine lv_imul hx hb dX5_addNext_26 ?_
    refine lv_bipush (v := 6) hx hb dX5_addNext_27 (by decide) ?_
    obtain ⟨g2, h⟩ := of_gd h
    refine x_copyI lokC hF hl hP hS (gw_t (tb6 (List.mem_of_getElem? (i := 96) rfl)) rfl) (gw_t (tb3 (List.mem_of_getElem? (i := 106) rfl)) rfl) (gw_t (tb3 (List.mem_of_getElem? (i := 105) rfl)) rfl) (gw_t (tb1 (List.mem_of_getElem? (i := 18) rfl)) rfl) lc_37 lc_32 g2 (Nat.le_of_ble_eq_true rfl) (Nat.le_of_ble_eq_true rfl) dX5_addNext_29 (fun H locs σ3 eσ3 hP hS => ?_)
    have h := of_lt h eσ3
    refine lv_aload_n hx hb dX5_addNext_32 rfl (lv_at hl 0 rfl) ?_
    refine lv_dup hx hb dX5_addNext_33 rfl ?_
    refine gf_X5_39 hC hb hP dX5_addNext_34 ?_
    refine lv_iconst (v := 1) hx hb dX5_addNext_37 (by decide) ?_
    refine lv_iadd hx hb dX5_addNext_38 ?_
    refine pf_X5_39 hC hb hP hD hS dX5_addNext_39 (fun H locs σ4 eσ4 hP hS => ?_)
    have h := of_lt h eσ4
    refine lv_iconst (v := 1) hx hb dX5_addNext_42 (by decide) ?_
    exact x_zret hF hP hS rfl h dX5_addNext_43
  · have h := of_f h c1
    refine lv_iconst (v := 0) hx hb dX5_addNext_9 (by decide) ?_
    exact x_zret hF hP hS rfl h dX5_addNext_10

abbrev rm_X5_reckonNext : Room := { frames := 3, cells := 0, slots := 0, locals := 78 }
def f_X5_reckonNext_104 (σ : Sta) : Option (Int32 × Sta) :=
  some (0, σ)
set_option maxHeartbeats 4000000 in
set_option maxRecDepth 100000 in
theorem t_X5_reckonNext_104 {l : Launch} {D : va_G} {Y : CYs} {E : Nat → Nat} {p : Program} {e : Env} {s : State} {m : MethodId} {args : Array Value} {below : List Frame} {meth : Method} {c : Code} (hF : Fr p s m args meth c RX5 cX5_reckonNext 8 (some .boolean) D Y E LC) {o : Int32 × Sta} : ∀ (σ : Sta) (H : Heap) (locs : List Loc) (ls : Array Slot), f_X5_reckonNext_104 σ = some o → va_P D vwCl (wd Y E σ 0 LC) H → va_S (AF E LC.length s.heap.size) s.heap H locs → lv_has ls 8 [] → WI p l e rm_X5_reckonNext s m args below meth c LC Y D E o H locs (F0 m 104 ls []) := by
  intro σ H locs ls h hP hS hl
  unfold f_X5_reckonNext_104 at h
  obtain ⟨hC, hb, hml, hr, hlk, hD, hSW⟩ := id hF
  have hx := hC.1
  refine lv_iconst (v := 0) hx hb dX5_reckonNext_104 (by decide) ?_
  exact x_zret hF hP hS rfl h dX5_reckonNext_105

def f_X5_reckonNext_70 (k8 : Int32 → Int32 → Int32 → Sta → Option (Int32 × Sta)) (v2 : Int32) (v3 : Int32) (v4 : Int32) (v6 : Int64) (σ : Sta) : Option (Int32 × Sta) :=
  if v4 < 0 ∨ 6 ≤ (v4.toNatClampNeg) then none else (
  if lg_cmp v6 ((gA σ 21 (v4.toNatClampNeg)).toInt64) < 0 then
    f_X5_reckonNext_104 σ
  else
    if v4 < 0 ∨ 6 ≤ (v4.toNatClampNeg) then none else (
    if lg_cmp v6 ((gA σ 22 (v4.toNatClampNeg)).toInt64) ≤ 0 then
      if v4 < 0 ∨ 6 ≤ (v4.toNatClampNeg) then none else (
      lt (sA σ 37 (upd (gA σ 37) (v4.toNatClampNeg) v6.toInt32)) (fun σ6 =>
      lt (v4 + 1) (fun x7 =>
      k8 v2 v3 x7 σ6)))
    else
      f_X5_reckonNext_104 σ))
set_option maxHeartbeats 4000000 in
set_option maxRecDepth 100000 in
theorem t_X5_reckonNext_70 {l : Launch} {D : va_G} {Y : CYs} {E : Nat → Nat} {p : Program} {e : Env} {s : State} {m : MethodId} {args : Array Value} {below : List Frame} {meth : Method} {c : Code} (hF : Fr p s m args meth c RX5 cX5_reckonNext 8 (some .boolean) D Y E LC) {o : Int32 × Sta} (k8 : Int32 → Int32 → Int32 → Sta → Option (Int32 × Sta)) (hk8 : ∀ (v2 : Int32) (v3 : Int32) (v4 : Int32) (σ : Sta) (H : Heap) (locs : List Loc) (ls : Array Slot), k8 v2 v3 v4 σ = some o → va_P D vwCl (wd Y E σ 0 LC) H → va_S (AF E LC.length s.heap.size) s.heap H locs → lv_has ls 8 [(0, .ref (E 5)), (2, .int v2), (3, .int v3), (4, .int v4)] → WI p l e rm_X5_reckonNext s m args below meth c LC Y D E o H locs (F0 m 8 ls [])) : ∀ (v2 : Int32) (v3 : Int32) (v4 : Int32) (v6 : Int64) (σ : Sta) (H : Heap) (locs : List Loc) (ls : Array Slot), f_X5_reckonNext_70 k8 v2 v3 v4 v6 σ = some o → va_P D vwCl (wd Y E σ 0 LC) H → va_S (AF E LC.length s.heap.size) s.heap H locs → lv_has ls 8 [(0, .ref (E 5)), (2, .int v2), (3, .int v3), (4, .int v4), (6, .long v6)] → WI p l e rm_X5_reckonNext s m args below meth c LC Y D E o H locs (F0 m 70 ls []) := by
  intro v2 v3 v4 v6 σ H locs ls h hP hS hl
  unfold f_X5_reckonNext_70 at h
  obtain ⟨hC, hb, hml, hr, hlk, hD, hSW⟩ := id hF
  have hx := hC.1
  refine lv_lload hx hb dX5_reckonNext_70 (lv_at hl 4 rfl) ?_
  refine lv_aload_n hx hb dX5_reckonNext_72 rfl (lv_at hl 0 rfl) ?_
  refine gf_X5_31 hC hb hP dX5_reckonNext_73 ?_
  refine gf_X5_132 hC hb hP dX5_reckonNext_76 ?_
  refine lv_iload hx hb dX5_reckonNext_79 (lv_at hl 3 rfl) ?_
  obtain ⟨g1, h⟩ := of_gd h
  refine x_iald hC hb hP lc_21 g1 dX5_reckonNext_81 ?_
  refine lv_i2l (v := (gA σ 21 (v4.toNatClampNeg)).toInt64) hx hb dX5_reckonNext_82 rfl ?_
  refine W.lcmp hx hb dX5_reckonNext_83 ?_
  refine lv_if_lt (tgt := 104) hx hb dX5_reckonNext_84 (by decide) (fun c2 => ?_) (fun c2 => ?_)
  · have h := of_t h c2
    exact t_X5_reckonNext_104  hF σ _ _ _ h hP hS (lv_sub hl [] rfl)
  · have h := of_f h c2
    refine lv_lload hx hb dX5_reckonNext_87 (lv_at hl 4 rfl) ?_
    refine lv_aload_n hx hb dX5_reckonNext_89 rfl (lv_at hl 0 rfl) ?_
    refine gf_X5_31 hC hb hP dX5_reckonNext_90 ?_
    refine gf_X5_135 hC hb hP dX5_reckonNext_93 ?_
    refine lv_iload hx hb dX5_reckonNext_96 (lv_at hl 3 rfl) ?_
    obtain ⟨g3, h⟩ := of_gd h
    refine x_iald hC hb hP lc_22 g3 dX5_reckonNext_98 ?_
    refine lv_i2l (v := (gA σ 22 (v4.toNatClampNeg)).toInt64) hx hb dX5_reckonNext_99 rfl ?_
    refine W.lcmp hx hb dX5_reckonNext_100 ?_
    refine lv_if_le (tgt := 106) hx hb dX5_reckonNext_101 (by decide) (fun c4 => ?_) (fun c4 => ?_)
    · have h := of_t h c4
      refine lv_aload_n hx hb dX5_reckonNext_106 rfl (lv_at hl 0 rfl) ?_
      refine gf_X5_28 hC hb hP dX5_reckonNext_107 ?_
      refine lv_iload hx hb dX5_reckonNext_110 (lv_at hl 3 rfl) ?_
      refine lv_lload hx hb dX5_reckonNext_112 (lv_at hl 4 rfl) ?_
      refine lv_l2i (v := v6.toInt32) hx hb dX5_reckonNext_114 rfl ?_
      obtain ⟨g5, h⟩ := of_gd h
      refine x_iast lokC hC hb hP hD hS lc_37 g5 dX5_reckonNext_115 (fun H locs σ6 eσ6 hP hS => ?_)
      have h := of_lt h eσ6
      obtain ⟨x7, ex7⟩ : ∃ y : Int32, y = v4 + 1 := ⟨_, rfl⟩
      have h := of_lt h ex7
      refine lv_iinc (v := x7) (lv' := [(4, .int x7), (0, .ref (E 5)), (2, .int v2), (3, .int v3), (6, .long v6)]) hx hb dX5_reckonNext_116 hl (k := 3) rfl (by rw [ex7]; rfl) (by decide) rfl (fun ls hl => ?_)
      refine lv_goto (tgt := 8) hx hb dX5_reckonNext_119 (by decide) ?_
      exact hk8 v2 v3 x7 σ6 _ _ _ h hP hS (lv_sub hl [1, 2, 3, 0] rfl)
    · have h := of_f h c4
      exact t_X5_reckonNext_104  hF σ _ _ _ h hP hS (lv_sub hl [] rfl)

def f_X5_reckonNext_8 : Nat → Int32 → Int32 → Int32 → Sta → Option (Int32 × Sta)
  | 0, _, _, _, _ => none
  | n + 1, v2, v3, v4, σ => if gI σ 192 ≤ v4 then
      some (1, σ)
    else
      if (v2 * 6) + v4 < 0 ∨ 384 ≤ (((v2 * 6) + v4).toNatClampNeg) then none else (
      lt (gA σ 31 (((v2 * 6) + v4).toNatClampNeg)) (fun x3 =>
      if v3 + v4 < 0 ∨ 600 ≤ ((v3 + v4).toNatClampNeg) then none else (
      lt ((gA σ 32 ((v3 + v4).toNatClampNeg)).toInt64) (fun x5 =>
      if x3 < 0 then
        f_X5_reckonNext_70 (f_X5_reckonNext_8 n) v2 v3 v4 x5 σ
      else
        bnd (f_X0_reckon x3 v3 σ) (fun r7 σ8 =>
        f_X5_reckonNext_70 (f_X5_reckonNext_8 n) v2 v3 v4 r7 σ8)))))
set_option maxHeartbeats 4000000 in
set_option maxRecDepth 100000 in
theorem t_X5_reckonNext_8 {l : Launch} {D : va_G} {Y : CYs} {E : Nat → Nat} {p : Program} {e : Env} {s : State} {m : MethodId} {args : Array Value} {below : List Frame} {meth : Method} {c : Code} (hF : Fr p s m args meth c RX5 cX5_reckonNext 8 (some .boolean) D Y E LC) {o : Int32 × Sta} : ∀ (n : Nat) (v2 : Int32) (v3 : Int32) (v4 : Int32) (σ : Sta) (H : Heap) (locs : List Loc) (ls : Array Slot), f_X5_reckonNext_8 n v2 v3 v4 σ = some o → va_P D vwCl (wd Y E σ 0 LC) H → va_S (AF E LC.length s.heap.size) s.heap H locs → lv_has ls 8 [(0, .ref (E 5)), (2, .int v2), (3, .int v3), (4, .int v4)] → WI p l e rm_X5_reckonNext s m args below meth c LC Y D E o H locs (F0 m 8 ls []) := by
  intro n
  induction n with
  | zero =>
    intro v2 v3 v4 σ H locs ls h hP hS hl
    exact nomatch (show (none : Option (Int32 × Sta)) = some o from h)
  | succ n ih =>
    intro v2 v3 v4 σ H locs ls h hP hS hl
    rw [f_X5_reckonNext_8] at h
    obtain ⟨hC, hb, hml, hr, hlk, hD, hSW⟩ := id hF
    have hx := hC.1
    refine lv_iload hx hb dX5_reckonNext_8 (lv_at hl 3 rfl) ?_
    refine lv_aload_n hx hb dX5_reckonNext_10 rfl (lv_at hl 0 rfl) ?_
    refine gf_X5_31 hC hb hP dX5_reckonNext_11 ?_
    refine gf_X5_88 hC hb hP dX5_reckonNext_14 ?_
    refine lv_icmp_ge (tgt := 122) hx hb dX5_reckonNext_17 (by decide) (fun c1 => ?_) (fun c1 => ?_)
    · have h := of_t h c1
      refine lv_iconst (v := 1) hx hb dX5_reckonNext_122 (by decide) ?_
      exact x_zret hF hP hS rfl h dX5_reckonNext_123
    · have h := of_f h c1
      refine lv_aload_n hx hb dX5_reckonNext_20 rfl (lv_at hl 0 rfl) ?_
      refine gf_X5_31 hC hb hP dX5_reckonNext_21 ?_
      refine gf_X5_129 hC hb hP dX5_reckonNext_24 ?_
      refine lv_iload_n hx hb dX5_reckonNext_27 rfl (lv_at hl 1 rfl) ?_
      refine lv_bipush (v := 6) hx hb dX5_reckonNext_28 (by decide) ?_
      refine lv_imul hx hb dX5_reckonNext_30 ?_
      refine lv_iload hx hb dX5_reckonNext_31 (lv_at hl 3 rfl) ?_
      refine lv_iadd hx hb dX5_reckonNext_33 ?_
      obtain ⟨g2, h⟩ := of_gd h
      refine x_iald hC hb hP lc_31 g2 dX5_reckonNext_34 ?_
      refine lv_topi (fun x3 ex3 => ?_)
      have h := of_lt h ex3
      refine lv_istore (lv' := [(5, .int x3), (0, .ref (E 5)), (2, .int v2), (3, .int v3), (4, .int v4)]) hx hb dX5_reckonNext_35 hl (by decide) rfl (fun ls hl => ?_)
      refine lv_aload_n hx hb dX5_reckonNext_37 rfl (lv_at hl 1 rfl) ?_
      refine gf_X5_9 hC hb hP dX5_reckonNext_38 ?_
      refine lv_iload_n hx hb dX5_reckonNext_41 rfl (lv_at hl 3 rfl) ?_
      refine lv_iload hx hb dX5_reckonNext_42 (lv_at hl 4 rfl) ?_
      refine lv_iadd hx hb dX5_reckonNext_44 ?_
      obtain ⟨g4, h⟩ := of_gd h
      refine x_iald hC hb hP lc_32 g4 dX5_reckonNext_45 ?_
      refine lv_i2l (v := (gA σ 32 ((v3 + v4).toNatClampNeg)).toInt64) hx hb dX5_reckonNext_46 rfl ?_
      refine lv_topl (fun x5 ex5 => ?_)
      have h := of_lt h ex5
      refine lv_lstore (lv' := [(6, .long x5), (5, .int x3), (0, .ref (E 5)), (2, .int v2), (3, .int v3), (4, .int v4)]) hx hb dX5_reckonNext_47 hl (by decide) rfl (fun ls hl => ?_)
      refine lv_iload hx hb dX5_reckonNext_49 (lv_at hl 1 rfl) ?_
      refine lv_if_lt (tgt := 70) hx hb dX5_reckonNext_51 (by decide) (fun c6 => ?_) (fun c6 => ?_)
      · have h := of_t h c6
        exact t_X5_reckonNext_70  hF (f_X5_reckonNext_8 n) ih v2 v3 v4 x5 σ _ _ _ h hP hS (lv_sub hl [2, 3, 4, 5, 0] rfl)
      · have h := of_f h c6
        refine lv_aload_n hx hb dX5_reckonNext_54 rfl (lv_at hl 2 rfl) ?_
        refine gf_X5_35 hC hb hP dX5_reckonNext_55 ?_
        refine lv_iload hx hb dX5_reckonNext_58 (lv_at hl 1 rfl) ?_
        refine lv_aload_n hx hb dX5_reckonNext_60 rfl (lv_at hl 2 rfl) ?_
        refine gf_X5_9 hC hb hP dX5_reckonNext_61 ?_
        refine lv_iload_n hx hb dX5_reckonNext_64 rfl (lv_at hl 4 rfl) ?_
        obtain ⟨r7, σ8, g9, h⟩ := of_bnd h
        refine x_VL (As := [.int x3, .ref (E 32), .int v3]) (rest := []) hF hl hP hS (c_X0_reckon g9) (cw_X5_99 hC rfl rfl ⟨Nat.le_of_ble_eq_true rfl, Nat.le_of_ble_eq_true rfl⟩) lc_2 rfl rfl rfl (Nat.le_of_ble_eq_true rfl) dX5_reckonNext_65 ⟨Nat.zero_le _, Nat.zero_le _⟩ (fun H locs hP hS => ?_)
        refine lv_lstore (lv' := [(6, .long r7), (5, .int x3), (0, .ref (E 5)), (2, .int v2), (3, .int v3), (4, .int v4)]) hx hb dX5_reckonNext_68 hl (by decide) rfl (fun ls hl => ?_)
        exact t_X5_reckonNext_70  hF (f_X5_reckonNext_8 n) ih v2 v3 v4 r7 σ8 _ _ _ h hP hS (lv_sub hl [2, 3, 4, 5, 0] rfl)

def f_X5_reckonNext (a1 : Int32) (a2 : Int32) (σ : Sta) : Option (Int32 × Sta) :=
  lt (a1 * 6) (fun x1 =>
  f_X5_reckonNext_8 FU a2 x1 0 σ)
set_option maxHeartbeats 4000000 in
set_option maxRecDepth 100000 in
theorem c_X5_reckonNext {l : Launch} {D : va_G} {Y : CYs} {E : Nat → Nat} {a1 : Int32} {a2 : Int32} {σ : Sta} {o : Int32 × Sta} (h : f_X5_reckonNext a1 a2 σ = some o) : MI l yX5_reckonNext (Cond.code yX5_reckonNext cX5_reckonNext 8 (some .boolean) :: gW) rm_X5_reckonNext LC Y D E [.ref (E 5), .int a1, .int a2] σ o := by
  intro sz
  refine Met_of (Qc := fun sz => QI LC Y D E sz o) (by decide) (Nat.le_of_ble_eq_true rfl) (fun p e s m args below meth c hF hP ls hl => ?_) sz
  have hS : va_S (AF E LC.length s.heap.size) s.heap s.heap [] := va_S.rf
  have hl : lv_has ls 8 [(0, .ref (E 5)), (1, .int a1), (2, .int a2)] := hl
  show WI p l e rm_X5_reckonNext s m args below meth c LC Y D E o s.heap [] (F0 m 0 ls [])
  unfold f_X5_reckonNext at h
  obtain ⟨hC, hb, hml, hr, hlk, hD, hSW⟩ := id hF
  have hx := hC.1
  refine lv_iload_n hx hb dX5_reckonNext_0 rfl (lv_at hl 1 rfl) ?_
  refine lv_bipush (v := 6) hx hb dX5_reckonNext_1 (by decide) ?_
  refine lv_imul hx hb dX5_reckonNext_3 ?_
  refine lv_topi (fun x1 ex1 => ?_)
  have h := of_lt h ex1
  refine lv_istore_n (lv' := [(3, .int x1), (0, .ref (E 5)), (1, .int a1), (2, .int a2)]) hx hb dX5_reckonNext_4 rfl hl (by decide) rfl (fun ls hl => ?_)
  refine lv_iconst (v := 0) hx hb dX5_reckonNext_5 (by decide) ?_
  refine lv_istore (lv' := [(4, .int 0), (3, .int x1), (0, .ref (E 5)), (1, .int a1), (2, .int a2)]) hx hb dX5_reckonNext_6 hl (by decide) rfl (fun ls hl => ?_)
  exact t_X5_reckonNext_8  hF FU a2 x1 0 σ _ _ _ h hP hS (lv_sub hl [2, 4, 1, 0] rfl)

abbrev rm_X5_fail : Room := { frames := 0, cells := 0, slots := 0, locals := 0 }
def f_X5_fail (a1 : Int32) (a2 : Int32) (σ : Sta) : Option (Unit × Sta) :=
  lt (sI σ 329 a1) (fun σ1 =>
  if a2 < 0 ∨ 16 ≤ (a2.toNatClampNeg) then none else (
  lt (sI σ1 330 (gA σ1 27 (a2.toNatClampNeg))) (fun σ3 =>
  some ((), σ3))))
set_option maxHeartbeats 4000000 in
set_option maxRecDepth 100000 in
theorem c_X5_fail {l : Launch} {D : va_G} {Y : CYs} {E : Nat → Nat} {a1 : Int32} {a2 : Int32} {σ : Sta} {o : Unit × Sta} (h : f_X5_fail a1 a2 σ = some o) : MV l yX5_fail (Cond.code yX5_fail cX5_fail 3 none :: gW) rm_X5_fail LC Y D E [.ref (E 5), .int a1, .int a2] σ o := by
  intro sz
  refine Met_of (Qc := fun sz => QV LC Y D E sz o) (by decide) (Nat.le_of_ble_eq_true rfl) (fun p e s m args below meth c hF hP ls hl => ?_) sz
  have hS : va_S (AF E LC.length s.heap.size) s.heap s.heap [] := va_S.rf
  have hl : lv_has ls 3 [(0, .ref (E 5)), (1, .int a1), (2, .int a2)] := hl
  show WV p l e rm_X5_fail s m args below meth c LC Y D E o s.heap [] (F0 m 0 ls [])
  unfold f_X5_fail at h
  obtain ⟨hC, hb, hml, hr, hlk, hD, hSW⟩ := id hF
  have hx := hC.1
  refine lv_aload_n hx hb dX5_fail_0 rfl (lv_at hl 0 rfl) ?_
  refine lv_iload_n hx hb dX5_fail_1 rfl (lv_at hl 1 rfl) ?_
  refine pf_X5_43 hC hb hP hD hS dX5_fail_2 (fun H locs σ1 eσ1 hP hS => ?_)
  have h := of_lt h eσ1
  refine lv_aload_n hx hb dX5_fail_5 rfl (lv_at hl 0 rfl) ?_
  refine lv_aload_n hx hb dX5_fail_6 rfl (lv_at hl 0 rfl) ?_
  refine gf_X5_31 hC hb hP dX5_fail_7 ?_
  refine gf_X5_138 hC hb hP dX5_fail_10 ?_
  refine lv_iload_n hx hb dX5_fail_13 rfl (lv_at hl 2 rfl) ?_
  obtain ⟨g2, h⟩ := of_gd h
  refine x_iald hC hb hP lc_27 g2 dX5_fail_14 ?_
  refine pf_X5_46 hC hb hP hD hS dX5_fail_15 (fun H locs σ3 eσ3 hP hS => ?_)
  have h := of_lt h eσ3
  exact x_vret hF hP hS h dX5_fail_18

abbrev rm_X5_placeOfNext : Room := { frames := 0, cells := 0, slots := 0, locals := 0 }
def f_X5_placeOfNext_54 (k2 : Int32 → Sta → Option (Int32 × Sta)) (k14 : Int32 → Int32 → Int32 → Sta → Option (Int32 × Sta)) (v1 : Int32) (v3 : Int32) (s0 : Int32) (σ : Sta) : Option (Int32 × Sta) :=
  lt (v3 + 1) (fun x1 =>
  k14 v1 s0 x1 σ)
set_option maxHeartbeats 4000000 in
set_option maxRecDepth 100000 in
theorem t_X5_placeOfNext_54 {l : Launch} {D : va_G} {Y : CYs} {E : Nat → Nat} {p : Program} {e : Env} {s : State} {m : MethodId} {args : Array Value} {below : List Frame} {meth : Method} {c : Code} (hF : Fr p s m args meth c RX5 cX5_placeOfNext 4 (some .int) D Y E LC) {o : Int32 × Sta} (k2 : Int32 → Sta → Option (Int32 × Sta)) (k14 : Int32 → Int32 → Int32 → Sta → Option (Int32 × Sta)) (hk2 : ∀ (v1 : Int32) (σ : Sta) (H : Heap) (locs : List Loc) (ls : Array Slot), k2 v1 σ = some o → va_P D vwCl (wd Y E σ 0 LC) H → va_S (AF E LC.length s.heap.size) s.heap H locs → lv_has ls 4 [(0, .ref (E 5)), (1, .int v1)] → WI p l e rm_X5_placeOfNext s m args below meth c LC Y D E o H locs (F0 m 2 ls [])) (hk14 : ∀ (v1 : Int32) (v2 : Int32) (v3 : Int32) (σ : Sta) (H : Heap) (locs : List Loc) (ls : Array Slot), k14 v1 v2 v3 σ = some o → va_P D vwCl (wd Y E σ 0 LC) H → va_S (AF E LC.length s.heap.size) s.heap H locs → lv_has ls 4 [(0, .ref (E 5)), (1, .int v1), (2, .int v2), (3, .int v3)] → WI p l e rm_X5_placeOfNext s m args below meth c LC Y D E o H locs (F0 m 14 ls [])) : ∀ (v1 : Int32) (v3 : Int32) (s0 : Int32) (σ : Sta) (H : Heap) (locs : List Loc) (ls : Array Slot), f_X5_placeOfNext_54 k2 k14 v1 v3 s0 σ = some o → va_P D vwCl (wd Y E σ 0 LC) H → va_S (AF E LC.length s.heap.size) s.heap H locs → lv_has ls 4 [(0, .ref (E 5)), (1, .int v1), (3, .int v3)] → WI p l e rm_X5_placeOfNext s m args below meth c LC Y D E o H locs (F0 m 54 ls [.int s0]) := by
  intro v1 v3 s0 σ H locs ls h hP hS hl
  unfold f_X5_placeOfNext_54 at h
  obtain ⟨hC, hb, hml, hr, hlk, hD, hSW⟩ := id hF
  have hx := hC.1
  refine lv_istore_n (lv' := [(2, .int s0), (0, .ref (E 5)), (1, .int v1), (3, .int v3)]) hx hb dX5_placeOfNext_54 rfl hl (by decide) rfl (fun ls hl => ?_)
  obtain ⟨x1, ex1⟩ : ∃ y : Int32, y = v3 + 1 := ⟨_, rfl⟩
  have h := of_lt h ex1
  refine lv_iinc (v := x1) (lv' := [(3, .int x1), (2, .int s0), (0, .ref (E 5)), (1, .int v1)]) hx hb dX5_placeOfNext_55 hl (k := 3) rfl (by rw [ex1]; rfl) (by decide) rfl (fun ls hl => ?_)
  refine lv_goto (tgt := 14) hx hb dX5_placeOfNext_58 (by decide) ?_
  exact hk14 v1 s0 x1 σ _ _ _ h hP hS (lv_sub hl [2, 3, 1, 0] rfl)

def f_X5_placeOfNext_61 (k2 : Int32 → Sta → Option (Int32 × Sta)) (v1 : Int32) (v2 : Int32) (σ : Sta) : Option (Int32 × Sta) :=
  if v2 = 0 then
    lt (v1 + 1) (fun x2 =>
    k2 x2 σ)
  else
    some (v1, σ)
set_option maxHeartbeats 4000000 in
set_option maxRecDepth 100000 in
theorem t_X5_placeOfNext_61 {l : Launch} {D : va_G} {Y : CYs} {E : Nat → Nat} {p : Program} {e : Env} {s : State} {m : MethodId} {args : Array Value} {below : List Frame} {meth : Method} {c : Code} (hF : Fr p s m args meth c RX5 cX5_placeOfNext 4 (some .int) D Y E LC) {o : Int32 × Sta} (k2 : Int32 → Sta → Option (Int32 × Sta)) (hk2 : ∀ (v1 : Int32) (σ : Sta) (H : Heap) (locs : List Loc) (ls : Array Slot), k2 v1 σ = some o → va_P D vwCl (wd Y E σ 0 LC) H → va_S (AF E LC.length s.heap.size) s.heap H locs → lv_has ls 4 [(0, .ref (E 5)), (1, .int v1)] → WI p l e rm_X5_placeOfNext s m args below meth c LC Y D E o H locs (F0 m 2 ls [])) : ∀ (v1 : Int32) (v2 : Int32) (σ : Sta) (H : Heap) (locs : List Loc) (ls : Array Slot), f_X5_placeOfNext_61 k2 v1 v2 σ = some o → va_P D vwCl (wd Y E σ 0 LC) H → va_S (AF E LC.length s.heap.size) s.heap H locs → lv_has ls 4 [(0, .ref (E 5)), (1, .int v1), (2, .int v2)] → WI p l e rm_X5_placeOfNext s m args below meth c LC Y D E o H locs (F0 m 61 ls []) := by
  intro v1 v2 σ H locs ls h hP hS hl
  unfold f_X5_placeOfNext_61 at h
  obtain ⟨hC, hb, hml, hr, hlk, hD, hSW⟩ := id hF
  have hx := hC.1
  refine lv_iload_n hx hb dX5_placeOfNext_61 rfl (lv_at hl 2 rfl) ?_
  refine lv_if_eq (tgt := 67) hx hb dX5_placeOfNext_62 (by decide) (fun c1 => ?_) (fun c1 => ?_)
  · have h := of_t h c1
    obtain ⟨x2, ex2⟩ : ∃ y : Int32, y = v1 + 1 := ⟨_, rfl⟩
    have h := of_lt h ex2
    refine lv_iinc (v := x2) (lv' := [(1, .int x2), (0, .ref (E 5)), (2, .int v2)]) hx hb dX5_placeOfNext_67 hl (k := 1) rfl (by rw [ex2]; rfl) (by decide) rfl (fun ls hl => ?_)
    refine lv_goto (tgt := 2) hx hb dX5_placeOfNext_70 (by decide) ?_
    exact hk2 x2 σ _ _ _ h hP hS (lv_sub hl [1, 0] rfl)
  · have h := of_f h c1
    refine lv_iload_n hx hb dX5_placeOfNext_65 rfl (lv_at hl 1 rfl) ?_
    exact x_iret hF hP hS h dX5_placeOfNext_66

def f_X5_placeOfNext_14 (k2 : Int32 → Sta → Option (Int32 × Sta)) : Nat → Int32 → Int32 → Int32 → Sta → Option (Int32 × Sta)
  | 0, _, _, _, _ => none
  | n + 1, v1, v2, v3, σ => if gI σ 192 ≤ v3 then
      f_X5_placeOfNext_61 k2 v1 v2 σ
    else
      if v2 = 0 then
        f_X5_placeOfNext_61 k2 v1 v2 σ
      else
        if (v1 * 6) + v3 < 0 ∨ 600 ≤ (((v1 * 6) + v3).toNatClampNeg) then none else (
        if v3 < 0 ∨ 6 ≤ (v3.toNatClampNeg) then none else (
        if gA σ 32 (((v1 * 6) + v3).toNatClampNeg) = gA σ 37 (v3.toNatClampNeg) then
          f_X5_placeOfNext_54 k2 (f_X5_placeOfNext_14 k2 n) v1 v3 1 σ
        else
          f_X5_placeOfNext_54 k2 (f_X5_placeOfNext_14 k2 n) v1 v3 0 σ))
set_option maxHeartbeats 4000000 in
set_option maxRecDepth 100000 in
theorem t_X5_placeOfNext_14 {l : Launch} {D : va_G} {Y : CYs} {E : Nat → Nat} {p : Program} {e : Env} {s : State} {m : MethodId} {args : Array Value} {below : List Frame} {meth : Method} {c : Code} (hF : Fr p s m args meth c RX5 cX5_placeOfNext 4 (some .int) D Y E LC) {o : Int32 × Sta} (k2 : Int32 → Sta → Option (Int32 × Sta)) (hk2 : ∀ (v1 : Int32) (σ : Sta) (H : Heap) (locs : List Loc) (ls : Array Slot), k2 v1 σ = some o → va_P D vwCl (wd Y E σ 0 LC) H → va_S (AF E LC.length s.heap.size) s.heap H locs → lv_has ls 4 [(0, .ref (E 5)), (1, .int v1)] → WI p l e rm_X5_placeOfNext s m args below meth c LC Y D E o H locs (F0 m 2 ls [])) : ∀ (n : Nat) (v1 : Int32) (v2 : Int32) (v3 : Int32) (σ : Sta) (H : Heap) (locs : List Loc) (ls : Array Slot), f_X5_placeOfNext_14 k2 n v1 v2 v3 σ = some o → va_P D vwCl (wd Y E σ 0 LC) H → va_S (AF E LC.length s.heap.size) s.heap H locs → lv_has ls 4 [(0, .ref (E 5)), (1, .int v1), (2, .int v2), (3, .int v3)] → WI p l e rm_X5_placeOfNext s m args below meth c LC Y D E o H locs (F0 m 14 ls []) := by
  intro n
  induction n with
  | zero =>
    intro v1 v2 v3 σ H locs ls h hP hS hl
    exact nomatch (show (none : Option (Int32 × Sta)) = some o from h)
  | succ n ih =>
    intro v1 v2 v3 σ H locs ls h hP hS hl
    rw [f_X5_placeOfNext_14] at h
    obtain ⟨hC, hb, hml, hr, hlk, hD, hSW⟩ := id hF
    have hx := hC.1
    refine lv_iload_n hx hb dX5_placeOfNext_14 rfl (lv_at hl 3 rfl) ?_
    refine lv_aload_n hx hb dX5_placeOfNext_15 rfl (lv_at hl 0 rfl) ?_
    refine gf_X5_31 hC hb hP dX5_placeOfNext_16 ?_
    refine gf_X5_88 hC hb hP dX5_placeOfNext_19 ?_
    refine lv_icmp_ge (tgt := 61) hx hb dX5_placeOfNext_22 (by decide) (fun c1 => ?_) (fun c1 => ?_)
    · have h := of_t h c1
      exact t_X5_placeOfNext_61  hF k2 hk2 v1 v2 σ _ _ _ h hP hS (lv_sub hl [0, 1, 2] rfl)
    · have h := of_f h c1
      refine lv_iload_n hx hb dX5_placeOfNext_25 rfl (lv_at hl 2 rfl) ?_
      refine lv_if_eq (tgt := 61) hx hb dX5_placeOfNext_26 (by decide) (fun c2 => ?_) (fun c2 => ?_)
      · have h := of_t h c2
        exact t_X5_placeOfNext_61  hF k2 hk2 v1 v2 σ _ _ _ h hP hS (lv_sub hl [0, 1, 2] rfl)
      · have h := of_f h c2
        refine lv_aload_n hx hb dX5_placeOfNext_29 rfl (lv_at hl 0 rfl) ?_
        refine gf_X5_9 hC hb hP dX5_placeOfNext_30 ?_
        refine lv_iload_n hx hb dX5_placeOfNext_33 rfl (lv_at hl 1 rfl) ?_
        refine lv_bipush (v := 6) hx hb dX5_placeOfNext_34 (by decide) ?_
        refine lv_imul hx hb dX5_placeOfNext_36 ?_
        refine lv_iload_n hx hb dX5_placeOfNext_37 rfl (lv_at hl 3 rfl) ?_
        refine lv_iadd hx hb dX5_placeOfNext_38 ?_
        obtain ⟨g3, h⟩ := of_gd h
        refine x_iald hC hb hP lc_32 g3 dX5_placeOfNext_39 ?_
        refine lv_aload_n hx hb dX5_placeOfNext_40 rfl (lv_at hl 0 rfl) ?_
        refine gf_X5_28 hC hb hP dX5_placeOfNext_41 ?_
        refine lv_iload_n hx hb dX5_placeOfNext_44 rfl (lv_at hl 3 rfl) ?_
        obtain ⟨g4, h⟩ := of_gd h
        refine x_iald hC hb hP lc_37 g4 dX5_placeOfNext_45 ?_
        refine lv_icmp_ne (tgt := 53) hx hb dX5_placeOfNext_46 (by decide) (fun c5 => ?_) (fun c5 => ?_)
        · have h := of_f h c5
          refine lv_iconst (v := 0) hx hb dX5_placeOfNext_53 (by decide) ?_
          exact t_X5_placeOfNext_54  hF k2 (f_X5_placeOfNext_14 k2 n) hk2 ih v1 v3 0 σ _ _ _ h hP hS (lv_sub hl [0, 1, 3] rfl)
        · have h := of_t h c5
          refine lv_iconst (v := 1) hx hb dX5_placeOfNext_49 (by decide) ?_
          refine lv_goto (tgt := 54) hx hb dX5_placeOfNext_50 (by decide) ?_
          exact t_X5_placeOfNext_54  hF k2 (f_X5_placeOfNext_14 k2 n) hk2 ih v1 v3 1 σ _ _ _ h hP hS (lv_sub hl [0, 1, 3] rfl)

def f_X5_placeOfNext_2 : Nat → Int32 → Sta → Option (Int32 × Sta)
  | 0, _, _ => none
  | n + 1, v1, σ => if gI σ 322 ≤ v1 then
      some (gI σ 322, σ)
    else
      f_X5_placeOfNext_14 (f_X5_placeOfNext_2 n) FU v1 1 0 σ
set_option maxHeartbeats 4000000 in
set_option maxRecDepth 100000 in
theorem t_X5_placeOfNext_2 {l : Launch} {D : va_G} {Y : CYs} {E : Nat → Nat} {p : Program} {e : Env} {s : State} {m : MethodId} {args : Array Value} {below : List Frame} {meth : Method} {c : Code} (hF : Fr p s m args meth c RX5 cX5_placeOfNext 4 (some .int) D Y E LC) {o : Int32 × Sta} : ∀ (n : Nat) (v1 : Int32) (σ : Sta) (H : Heap) (locs : List Loc) (ls : Array Slot), f_X5_placeOfNext_2 n v1 σ = some o → va_P D vwCl (wd Y E σ 0 LC) H → va_S (AF E LC.length s.heap.size) s.heap H locs → lv_has ls 4 [(0, .ref (E 5)), (1, .int v1)] → WI p l e rm_X5_placeOfNext s m args below meth c LC Y D E o H locs (F0 m 2 ls []) := by
  intro n
  induction n with
  | zero =>
    intro v1 σ H locs ls h hP hS hl
    exact nomatch (show (none : Option (Int32 × Sta)) = some o from h)
  | succ n ih =>
    intro v1 σ H locs ls h hP hS hl
    rw [f_X5_placeOfNext_2] at h
    obtain ⟨hC, hb, hml, hr, hlk, hD, hSW⟩ := id hF
    have hx := hC.1
    refine lv_iload_n hx hb dX5_placeOfNext_2 rfl (lv_at hl 1 rfl) ?_
    refine lv_aload_n hx hb dX5_placeOfNext_3 rfl (lv_at hl 0 rfl) ?_
    refine gf_X5_39 hC hb hP dX5_placeOfNext_4 ?_
    refine lv_icmp_ge (tgt := 73) hx hb dX5_placeOfNext_7 (by decide) (fun c1 => ?_) (fun c1 => ?_)
    · have h := of_t h c1
      refine lv_aload_n hx hb dX5_placeOfNext_73 rfl (lv_at hl 0 rfl) ?_
      refine gf_X5_39 hC hb hP dX5_placeOfNext_74 ?_
      exact x_iret hF hP hS h dX5_placeOfNext_77
    · have h := of_f h c1
      refine lv_iconst (v := 1) hx hb dX5_placeOfNext_10 (by decide) ?_
      refine lv_istore_n (lv' := [(2, .int 1), (0, .ref (E 5)), (1, .int v1)]) hx hb dX5_placeOfNext_11 rfl hl (by decide) rfl (fun ls hl => ?_)
      refine lv_iconst (v := 0) hx hb dX5_placeOfNext_12 (by decide) ?_
      refine lv_istore_n (lv' := [(3, .int 0), (2, .int 1), (0, .ref (E 5)), (1, .int v1)]) hx hb dX5_placeOfNext_13 rfl hl (by decide) rfl (fun ls hl => ?_)
      exact t_X5_placeOfNext_14  hF (f_X5_placeOfNext_2 n) ih FU v1 1 0 σ _ _ _ h hP hS (lv_sub hl [2, 3, 1, 0] rfl)

def f_X5_placeOfNext (σ : Sta) : Option (Int32 × Sta) :=
  f_X5_placeOfNext_2 FU 0 σ
set_option maxHeartbeats 4000000 in
set_option maxRecDepth 100000 in
theorem c_X5_placeOfNext {l : Launch} {D : va_G} {Y : CYs} {E : Nat → Nat} {σ : Sta} {o : Int32 × Sta} (h : f_X5_placeOfNext σ = some o) : MI l yX5_placeOfNext (Cond.code yX5_placeOfNext cX5_placeOfNext 4 (some .int) :: gW) rm_X5_placeOfNext LC Y D E [.ref (E 5)] σ o := by
  intro sz
  refine Met_of (Qc := fun sz => QI LC Y D E sz o) (by decide) (Nat.le_of_ble_eq_true rfl) (fun p e s m args below meth c hF hP ls hl => ?_) sz
  have hS : va_S (AF E LC.length s.heap.size) s.heap s.heap [] := va_S.rf
  have hl : lv_has ls 4 [(0, .ref (E 5))] := hl
  show WI p l e rm_X5_placeOfNext s m args below meth c LC Y D E o s.heap [] (F0 m 0 ls [])
  unfold f_X5_placeOfNext at h
  obtain ⟨hC, hb, hml, hr, hlk, hD, hSW⟩ := id hF
  have hx := hC.1
  refine lv_iconst (v := 0) hx hb dX5_placeOfNext_0 (by decide) ?_
  refine lv_istore_n (lv' := [(1, .int 0), (0, .ref (E 5))]) hx hb dX5_placeOfNext_1 rfl hl (by decide) rfl (fun ls hl => ?_)
  exact t_X5_placeOfNext_2  hF FU 0 σ _ _ _ h hP hS (lv_sub hl [1, 0] rfl)

abbrev rm_X5_addChoice : Room := { frames := 4, cells := 0, slots := 0, locals := 105 }
def f_X5_addChoice_98 (k32 : Int32 → Int32 → Int32 → Int32 → Sta → Option (Unit × Sta)) (v1 : Int32) (v2 : Int32) (v3 : Int32) (v4 : Int32) (v5 : Int32) (σ : Sta) : Option (Unit × Sta) :=
  if (v3 * 4) + v4 < 0 ∨ 6400 ≤ (((v3 * 4) + v4).toNatClampNeg) then none else (
  lt (sA σ 35 (upd (gA σ 35) (((v3 * 4) + v4).toNatClampNeg) v5)) (fun σ2 =>
  lt (v4 + 1) (fun x3 =>
  k32 v1 v2 v3 x3 σ2)))
set_option maxHeartbeats 4000000 in
set_option maxRecDepth 100000 in
theorem t_X5_addChoice_98 {l : Launch} {D : va_G} {Y : CYs} {E : Nat → Nat} {p : Program} {e : Env} {s : State} {m : MethodId} {args : Array Value} {below : List Frame} {meth : Method} {c : Code} (hF : Fr p s m args meth c RX5 cX5_addChoice 6 none D Y E LC) {o : Unit × Sta} (k32 : Int32 → Int32 → Int32 → Int32 → Sta → Option (Unit × Sta)) (hk32 : ∀ (v1 : Int32) (v2 : Int32) (v3 : Int32) (v4 : Int32) (σ : Sta) (H : Heap) (locs : List Loc) (ls : Array Slot), k32 v1 v2 v3 v4 σ = some o → va_P D vwCl (wd Y E σ 0 LC) H → va_S (AF E LC.length s.heap.size) s.heap H locs → lv_has ls 6 [(0, .ref (E 5)), (1, .int v1), (2, .int v2), (3, .int v3), (4, .int v4)] → WV p l e rm_X5_addChoice s m args below meth c LC Y D E o H locs (F0 m 32 ls [])) : ∀ (v1 : Int32) (v2 : Int32) (v3 : Int32) (v4 : Int32) (v5 : Int32) (σ : Sta) (H : Heap) (locs : List Loc) (ls : Array Slot), f_X5_addChoice_98 k32 v1 v2 v3 v4 v5 σ = some o → va_P D vwCl (wd Y E σ 0 LC) H → va_S (AF E LC.length s.heap.size) s.heap H locs → lv_has ls 6 [(0, .ref (E 5)), (1, .int v1), (2, .int v2), (3, .int v3), (4, .int v4), (5, .int v5)] → WV p l e rm_X5_addChoice s m args below meth c LC Y D E o H locs (F0 m 98 ls []) := by
  intro v1 v2 v3 v4 v5 σ H locs ls h hP hS hl
  unfold f_X5_addChoice_98 at h
  obtain ⟨hC, hb, hml, hr, hlk, hD, hSW⟩ := id hF
  have hx := hC.1
  refine lv_aload_n hx hb dX5_addChoice_98 rfl (lv_at hl 0 rfl) ?_
  refine gf_X5_21 hC hb hP dX5_addChoice_99 ?_
  refine lv_iload_n hx hb dX5_addChoice_102 rfl (lv_at hl 3 rfl) ?_
  refine lv_iconst (v := 4) hx hb dX5_addChoice_103 (by decide) ?_
  refine lv_imul hx hb dX5_addChoice_104 ?_
  refine lv_iload hx hb dX5_addChoice_105 (lv_at hl 4 rfl) ?_
  refine lv_iadd hx hb dX5_addChoice_107 ?_
  refine lv_iload hx hb dX5_addChoice_108 (lv_at hl 5 rfl) ?_
  obtain ⟨g1, h⟩ := of_gd h
  refine x_iast lokC hC hb hP hD hS lc_35 g1 dX5_addChoice_110 (fun H locs σ2 eσ2 hP hS => ?_)
  have h := of_lt h eσ2
  obtain ⟨x3, ex3⟩ : ∃ y : Int32, y = v4 + 1 := ⟨_, rfl⟩
  have h := of_lt h ex3
  refine lv_iinc (v := x3) (lv' := [(4, .int x3), (0, .ref (E 5)), (1, .int v1), (2, .int v2), (3, .int v3), (5, .int v5)]) hx hb dX5_addChoice_111 hl (k := 4) rfl (by rw [ex3]; rfl) (by decide) rfl (fun ls hl => ?_)
  refine lv_goto (tgt := 32) hx hb dX5_addChoice_114 (by decide) ?_
  exact hk32 v1 v2 v3 x3 σ2 _ _ _ h hP hS (lv_sub hl [1, 2, 3, 4, 0] rfl)

def f_X5_addChoice_32 : Nat → Int32 → Int32 → Int32 → Int32 → Sta → Option (Unit × Sta)
  | 0, _, _, _, _, _ => none
  | n + 1, v1, v2, v3, v4, σ => if v2 < 0 ∨ 16 ≤ (v2.toNatClampNeg) then none else (
    if gA σ 29 (v2.toNatClampNeg) ≤ v4 then
      some ((), σ)
    else
      bnd (f_X5_reckonNext v1 ((v2 * 4) + v4) σ) (fun r3 σ4 =>
      if r3 = 0 then
        bnd (f_X5_fail 9 v2 σ4) (fun _ σ19 =>
        some ((), σ19))
      else
        bnd (f_X5_placeOfNext σ4) (fun r7 σ8 =>
        if r7 = gI σ8 322 then
          bnd (f_X5_addNext σ8) (fun r11 σ12 =>
          if r11 = 0 then
            bnd (f_X5_fail 8 v2 σ12) (fun _ σ16 =>
            some ((), σ16))
          else
            f_X5_addChoice_98 (f_X5_addChoice_32 n) v1 v2 v3 v4 r7 σ12)
        else
          f_X5_addChoice_98 (f_X5_addChoice_32 n) v1 v2 v3 v4 r7 σ8)))
set_option maxHeartbeats 4000000 in
set_option maxRecDepth 100000 in
theorem t_X5_addChoice_32 {l : Launch} {D : va_G} {Y : CYs} {E : Nat → Nat} {p : Program} {e : Env} {s : State} {m : MethodId} {args : Array Value} {below : List Frame} {meth : Method} {c : Code} (hF : Fr p s m args meth c RX5 cX5_addChoice 6 none D Y E LC) {o : Unit × Sta} : ∀ (n : Nat) (v1 : Int32) (v2 : Int32) (v3 : Int32) (v4 : Int32) (σ : Sta) (H : Heap) (locs : List Loc) (ls : Array Slot), f_X5_addChoice_32 n v1 v2 v3 v4 σ = some o → va_P D vwCl (wd Y E σ 0 LC) H → va_S (AF E LC.length s.heap.size) s.heap H locs → lv_has ls 6 [(0, .ref (E 5)), (1, .int v1), (2, .int v2), (3, .int v3), (4, .int v4)] → WV p l e rm_X5_addChoice s m args below meth c LC Y D E o H locs (F0 m 32 ls []) := by
  intro n
  induction n with
  | zero =>
    intro v1 v2 v3 v4 σ H locs ls h hP hS hl
    exact nomatch (show (none : Option (Unit × Sta)) = some o from h)
  | succ n ih =>
    intro v1 v2 v3 v4 σ H locs ls h hP hS hl
    rw [f_X5_addChoice_32] at h
    obtain ⟨hC, hb, hml, hr, hlk, hD, hSW⟩ := id hF
    have hx := hC.1
    refine lv_iload hx hb dX5_addChoice_32 (lv_at hl 4 rfl) ?_
    refine lv_aload_n hx hb dX5_addChoice_34 rfl (lv_at hl 0 rfl) ?_
    refine gf_X5_31 hC hb hP dX5_addChoice_35 ?_
    refine gf_X5_72 hC hb hP dX5_addChoice_38 ?_
    refine lv_iload_n hx hb dX5_addChoice_41 rfl (lv_at hl 2 rfl) ?_
    obtain ⟨g1, h⟩ := of_gd h
    refine x_iald hC hb hP lc_29 g1 dX5_addChoice_42 ?_
    refine lv_icmp_ge (tgt := 117) hx hb dX5_addChoice_43 (by decide) (fun c2 => ?_) (fun c2 => ?_)
    · have h := of_t h c2
      exact x_vret hF hP hS h dX5_addChoice_117
    · have h := of_f h c2
      refine lv_aload_n hx hb dX5_addChoice_46 rfl (lv_at hl 0 rfl) ?_
      refine lv_iload_n hx hb dX5_addChoice_47 rfl (lv_at hl 1 rfl) ?_
      refine lv_iload_n hx hb dX5_addChoice_48 rfl (lv_at hl 2 rfl) ?_
      refine lv_iconst (v := 4) hx hb dX5_addChoice_49 (by decide) ?_
      refine lv_imul hx hb dX5_addChoice_50 ?_
      refine lv_iload hx hb dX5_addChoice_51 (lv_at hl 4 rfl) ?_
      refine lv_iadd hx hb dX5_addChoice_53 ?_
      obtain ⟨r3, σ4, g5, h⟩ := of_bnd h
      refine x_VI (As := [.int v1, .int ((v2 * 4) + v4)]) (rest := []) hF hl hP hS (c_X5_reckonNext g5) (cw_X5_118 hC rfl rfl ⟨Nat.le_of_ble_eq_true rfl, Nat.le_of_ble_eq_true rfl⟩) lc_5 rfl rfl rfl (Nat.le_of_ble_eq_true rfl) dX5_addChoice_54 ⟨Nat.zero_le _, Nat.zero_le _⟩ (fun H locs hP hS => ?_)
      refine lv_if_ne (tgt := 68) hx hb dX5_addChoice_57 (by decide) (fun c6 => ?_) (fun c6 => ?_)
      · have h := of_f h c6
        refine lv_aload_n hx hb dX5_addChoice_68 rfl (lv_at hl 0 rfl) ?_
        obtain ⟨r7, σ8, g9, h⟩ := of_bnd h
        refine x_VI (As := []) (rest := []) hF hl hP hS (c_X5_placeOfNext g9) (cw_X5_125 hC rfl rfl ⟨Nat.le_of_ble_eq_true rfl, Nat.le_of_ble_eq_true rfl⟩) lc_5 rfl rfl rfl (Nat.le_of_ble_eq_true rfl) dX5_addChoice_69 ⟨Nat.zero_le _, Nat.zero_le _⟩ (fun H locs hP hS => ?_)
        refine lv_istore (lv' := [(5, .int r7), (0, .ref (E 5)), (1, .int v1), (2, .int v2), (3, .int v3), (4, .int v4)]) hx hb dX5_addChoice_72 hl (by decide) rfl (fun ls hl => ?_)
        refine lv_iload hx hb dX5_addChoice_74 (lv_at hl 0 rfl) ?_
        refine lv_aload_n hx hb dX5_addChoice_76 rfl (lv_at hl 1 rfl) ?_
        refine gf_X5_39 hC hb hP dX5_addChoice_77 ?_
        refine lv_icmp_ne (tgt := 98) hx hb dX5_addChoice_80 (by decide) (fun c10 => ?_) (fun c10 => ?_)
        · have h := of_f h c10
          exact t_X5_addChoice_98  hF (f_X5_addChoice_32 n) ih v1 v2 v3 v4 r7 σ8 _ _ _ h hP hS (lv_sub hl [1, 2, 3, 4, 5, 0] rfl)
        · have h := of_t h c10
          refine lv_aload_n hx hb dX5_addChoice_83 rfl (lv_at hl 1 rfl) ?_
          obtain ⟨r11, σ12, g13, h⟩ := of_bnd h
          refine x_VI (As := []) (rest := []) hF hl hP hS (c_X5_addNext g13) (cw_X5_60 hC rfl rfl ⟨Nat.le_of_ble_eq_true rfl, Nat.le_of_ble_eq_true rfl⟩) lc_5 rfl rfl rfl (Nat.le_of_ble_eq_true rfl) dX5_addChoice_84 ⟨Nat.zero_le _, Nat.zero_le _⟩ (fun H locs hP hS => ?_)
          refine lv_if_ne (tgt := 98) hx hb dX5_addChoice_87 (by decide) (fun c14 => ?_) (fun c14 => ?_)
          · have h := of_f h c14
            exact t_X5_addChoice_98  hF (f_X5_addChoice_32 n) ih v1 v2 v3 v4 r7 σ12 _ _ _ h hP hS (lv_sub hl [1, 2, 3, 4, 5, 0] rfl)
          · have h := of_t h c14
            refine lv_aload_n hx hb dX5_addChoice_90 rfl (lv_at hl 1 rfl) ?_
            refine lv_bipush (v := 8) hx hb dX5_addChoice_91 (by decide) ?_
            refine lv_iload_n hx hb dX5_addChoice_93 rfl (lv_at hl 3 rfl) ?_
            obtain ⟨r15, σ16, g17, h⟩ := of_bnd h
            refine x_VV (As := [.int 8, .int v2]) (rest := []) hF hl hP hS (c_X5_fail g17) (cw_X5_122 hC rfl rfl ⟨Nat.le_of_ble_eq_true rfl, Nat.le_of_ble_eq_true rfl⟩) lc_5 rfl rfl rfl (Nat.le_of_ble_eq_true rfl) dX5_addChoice_94 ⟨Nat.zero_le _, Nat.zero_le _⟩ (fun H locs hP hS => ?_)
            exact x_vret hF hP hS h dX5_addChoice_97
      · have h := of_t h c6
        refine lv_aload_n hx hb dX5_addChoice_60 rfl (lv_at hl 0 rfl) ?_
        refine lv_bipush (v := 9) hx hb dX5_addChoice_61 (by decide) ?_
        refine lv_iload_n hx hb dX5_addChoice_63 rfl (lv_at hl 2 rfl) ?_
        obtain ⟨r18, σ19, g20, h⟩ := of_bnd h
        refine x_VV (As := [.int 9, .int v2]) (rest := []) hF hl hP hS (c_X5_fail g20) (cw_X5_122 hC rfl rfl ⟨Nat.le_of_ble_eq_true rfl, Nat.le_of_ble_eq_true rfl⟩) lc_5 rfl rfl rfl (Nat.le_of_ble_eq_true rfl) dX5_addChoice_64 ⟨Nat.zero_le _, Nat.zero_le _⟩ (fun H locs hP hS => ?_)
        exact x_vret hF hP hS h dX5_addChoice_67

def f_X5_addChoice (a1 : Int32) (a2 : Int32) (σ : Sta) : Option (Unit × Sta) :=
  if a1 < 0 ∨ 100 ≤ (a1.toNatClampNeg) then none else (
  lt ((a1 * 16) + (gA σ 33 (a1.toNatClampNeg))) (fun x2 =>
  if x2 < 0 ∨ 1600 ≤ (x2.toNatClampNeg) then none else (
  lt (sA σ 34 (upd (gA σ 34) (x2.toNatClampNeg) a2)) (fun σ4 =>
  if a1 < 0 ∨ 100 ≤ (a1.toNatClampNeg) then none else (
  if a1 < 0 ∨ 100 ≤ (a1.toNatClampNeg) then none else (
  lt (sA σ4 33 (upd (gA σ4 33) (a1.toNatClampNeg) ((gA σ4 33 (a1.toNatClampNeg)) + 1))) (fun σ7 =>
  f_X5_addChoice_32 FU a1 a2 x2 0 σ7)))))))
set_option maxHeartbeats 4000000 in
set_option maxRecDepth 100000 in
theorem c_X5_addChoice {l : Launch} {D : va_G} {Y : CYs} {E : Nat → Nat} {a1 : Int32} {a2 : Int32} {σ : Sta} {o : Unit × Sta} (h : f_X5_addChoice a1 a2 σ = some o) : MV l yX5_addChoice (Cond.code yX5_addChoice cX5_addChoice 6 none :: gW) rm_X5_addChoice LC Y D E [.ref (E 5), .int a1, .int a2] σ o := by
  intro sz
  refine Met_of (Qc := fun sz => QV LC Y D E sz o) (by decide) (Nat.le_of_ble_eq_true rfl) (fun p e s m args below meth c hF hP ls hl => ?_) sz
  have hS : va_S (AF E LC.length s.heap.size) s.heap s.heap [] := va_S.rf
  have hl : lv_has ls 6 [(0, .ref (E 5)), (1, .int a1), (2, .int a2)] := hl
  show WV p l e rm_X5_addChoice s m args below meth c LC Y D E o s.heap [] (F0 m 0 ls [])
  unfold f_X5_addChoice at h
  obtain ⟨hC, hb, hml, hr, hlk, hD, hSW⟩ := id hF
  have hx := hC.1
  refine lv_iload_n hx hb dX5_addChoice_0 rfl (lv_at hl 1 rfl) ?_
  refine lv_bipush (v := 16) hx hb dX5_addChoice_1 (by decide) ?_
  refine lv_imul hx hb dX5_addChoice_3 ?_
  refine lv_aload_n hx hb dX5_addChoice_4 rfl (lv_at hl 0 rfl) ?_
  refine gf_X5_15 hC hb hP dX5_addChoice_5 ?_
  refine lv_iload_n hx hb dX5_addChoice_8 rfl (lv_at hl 1 rfl) ?_
  obtain ⟨g1, h⟩ := of_gd h
  refine x_iald hC hb hP lc_33 g1 dX5_addChoice_9 ?_
  refine lv_iadd hx hb dX5_addChoice_10 ?_
  refine lv_topi (fun x2 ex2 => ?_)
  have h := of_lt h ex2
  refine lv_istore_n (lv' := [(3, .int x2), (0, .ref (E 5)), (1, .int a1), (2, .int a2)]) hx hb dX5_addChoice_11 rfl hl (by decide) rfl (fun ls hl => ?_)
  refine lv_aload_n hx hb dX5_addChoice_12 rfl (lv_at hl 1 rfl) ?_
  refine gf_X5_18 hC hb hP dX5_addChoice_13 ?_
  refine lv_iload_n hx hb dX5_addChoice_16 rfl (lv_at hl 0 rfl) ?_
  refine lv_iload_n hx hb dX5_addChoice_17 rfl (lv_at hl 3 rfl) ?_
  obtain ⟨g3, h⟩ := of_gd h
  refine x_iast lokC hC hb hP hD hS lc_34 g3 dX5_addChoice_18 (fun H locs σ4 eσ4 hP hS => ?_)
  have h := of_lt h eσ4
  refine lv_aload_n hx hb dX5_addChoice_19 rfl (lv_at hl 1 rfl) ?_
  refine gf_X5_15 hC hb hP dX5_addChoice_20 ?_
  refine lv_iload_n hx hb dX5_addChoice_23 rfl (lv_at hl 2 rfl) ?_
  refine lv_dup2_11 hx hb dX5_addChoice_24 rfl rfl ?_
  obtain ⟨g5, h⟩ := of_gd h
  refine x_iald hC hb hP lc_33 g5 dX5_addChoice_25 ?_
  refine lv_iconst (v := 1) hx hb dX5_addChoice_26 (by decide) ?_
  refine lv_iadd hx hb dX5_addChoice_27 ?_
  obtain ⟨g6, h⟩ := of_gd h
  refine x_iast lokC hC hb hP hD hS lc_33 g6 dX5_addChoice_28 (fun H locs σ7 eσ7 hP hS => ?_)
  have h := of_lt h eσ7
  refine lv_iconst (v := 0) hx hb dX5_addChoice_29 (by decide) ?_
  refine lv_istore (lv' := [(4, .int 0), (3, .int x2), (0, .ref (E 5)), (1, .int a1), (2, .int a2)]) hx hb dX5_addChoice_30 hl (by decide) rfl (fun ls hl => ?_)
  exact t_X5_addChoice_32  hF FU a1 a2 x2 0 σ7 _ _ _ h hP hS (lv_sub hl [2, 3, 4, 1, 0] rfl)

abbrev rm_X5_visit : Room := { frames := 5, cells := 0, slots := 0, locals := 130 }
def f_X5_visit_160 (k103 : Int32 → Int32 → Int32 → Int32 → Sta → Option (Unit × Sta)) (v1 : Int32) (v2 : Int32) (v3 : Int32) (v4 : Int32) (σ : Sta) : Option (Unit × Sta) :=
  lt (v4 + 1) (fun x1 =>
  k103 v1 v2 v3 x1 σ)
set_option maxHeartbeats 4000000 in
set_option maxRecDepth 100000 in
theorem t_X5_visit_160 {l : Launch} {D : va_G} {Y : CYs} {E : Nat → Nat} {p : Program} {e : Env} {s : State} {m : MethodId} {args : Array Value} {below : List Frame} {meth : Method} {c : Code} (hF : Fr p s m args meth c RX5 cX5_visit 5 none D Y E LC) {o : Unit × Sta} (k103 : Int32 → Int32 → Int32 → Int32 → Sta → Option (Unit × Sta)) (hk103 : ∀ (v1 : Int32) (v2 : Int32) (v3 : Int32) (v4 : Int32) (σ : Sta) (H : Heap) (locs : List Loc) (ls : Array Slot), k103 v1 v2 v3 v4 σ = some o → va_P D vwCl (wd Y E σ 0 LC) H → va_S (AF E LC.length s.heap.size) s.heap H locs → lv_has ls 5 [(0, .ref (E 5)), (1, .int v1), (2, .int v2), (3, .int v3), (4, .int v4)] → WV p l e rm_X5_visit s m args below meth c LC Y D E o H locs (F0 m 103 ls [])) : ∀ (v1 : Int32) (v2 : Int32) (v3 : Int32) (v4 : Int32) (σ : Sta) (H : Heap) (locs : List Loc) (ls : Array Slot), f_X5_visit_160 k103 v1 v2 v3 v4 σ = some o → va_P D vwCl (wd Y E σ 0 LC) H → va_S (AF E LC.length s.heap.size) s.heap H locs → lv_has ls 5 [(0, .ref (E 5)), (1, .int v1), (2, .int v2), (3, .int v3), (4, .int v4)] → WV p l e rm_X5_visit s m args below meth c LC Y D E o H locs (F0 m 160 ls []) := by
  intro v1 v2 v3 v4 σ H locs ls h hP hS hl
  unfold f_X5_visit_160 at h
  obtain ⟨hC, hb, hml, hr, hlk, hD, hSW⟩ := id hF
  have hx := hC.1
  obtain ⟨x1, ex1⟩ : ∃ y : Int32, y = v4 + 1 := ⟨_, rfl⟩
  have h := of_lt h ex1
  refine lv_iinc (v := x1) (lv' := [(4, .int x1), (0, .ref (E 5)), (1, .int v1), (2, .int v2), (3, .int v3)]) hx hb dX5_visit_160 hl (k := 4) rfl (by rw [ex1]; rfl) (by decide) rfl (fun ls hl => ?_)
  refine lv_goto (tgt := 103) hx hb dX5_visit_163 (by decide) ?_
  exact hk103 v1 v2 v3 x1 σ _ _ _ h hP hS (lv_sub hl [1, 2, 3, 4, 0] rfl)

def f_X5_visit_166 (σ : Sta) : Option (Unit × Sta) :=
  some ((), σ)
set_option maxHeartbeats 4000000 in
set_option maxRecDepth 100000 in
theorem t_X5_visit_166 {l : Launch} {D : va_G} {Y : CYs} {E : Nat → Nat} {p : Program} {e : Env} {s : State} {m : MethodId} {args : Array Value} {below : List Frame} {meth : Method} {c : Code} (hF : Fr p s m args meth c RX5 cX5_visit 5 none D Y E LC) {o : Unit × Sta} : ∀ (σ : Sta) (H : Heap) (locs : List Loc) (ls : Array Slot), f_X5_visit_166 σ = some o → va_P D vwCl (wd Y E σ 0 LC) H → va_S (AF E LC.length s.heap.size) s.heap H locs → lv_has ls 5 [] → WV p l e rm_X5_visit s m args below meth c LC Y D E o H locs (F0 m 166 ls []) := by
  intro σ H locs ls h hP hS hl
  unfold f_X5_visit_166 at h
  obtain ⟨hC, hb, hml, hr, hlk, hD, hSW⟩ := id hF
  have hx := hC.1
  exact x_vret hF hP hS h dX5_visit_166

def f_X5_visit_103 : Nat → Int32 → Int32 → Int32 → Int32 → Sta → Option (Unit × Sta)
  | 0, _, _, _, _, _ => none
  | n + 1, v1, v2, v3, v4, σ => if gI σ 202 ≤ v4 then
      f_X5_visit_166 σ
    else
      if gI σ 329 = 0 then
        if v3 = 0 then
          if v4 < 0 ∨ 16 ≤ (v4.toNatClampNeg) then none else (
          bnd (f_X0_reckon (gA σ 28 (v4.toNatClampNeg)) v2 σ) (fun r5 σ6 =>
          if lg_cmp r5 0 = 0 then
            f_X5_visit_160 (f_X5_visit_103 n) v1 v2 v3 v4 σ6
          else
            bnd (f_X5_addChoice v1 v4 σ6) (fun _ σ10 =>
            f_X5_visit_160 (f_X5_visit_103 n) v1 v2 v3 v4 σ10)))
        else
          f_X5_visit_166 σ
      else
        f_X5_visit_166 σ
set_option maxHeartbeats 4000000 in
set_option maxRecDepth 100000 in
theorem t_X5_visit_103 {l : Launch} {D : va_G} {Y : CYs} {E : Nat → Nat} {p : Program} {e : Env} {s : State} {m : MethodId} {args : Array Value} {below : List Frame} {meth : Method} {c : Code} (hF : Fr p s m args meth c RX5 cX5_visit 5 none D Y E LC) {o : Unit × Sta} : ∀ (n : Nat) (v1 : Int32) (v2 : Int32) (v3 : Int32) (v4 : Int32) (σ : Sta) (H : Heap) (locs : List Loc) (ls : Array Slot), f_X5_visit_103 n v1 v2 v3 v4 σ = some o → va_P D vwCl (wd Y E σ 0 LC) H → va_S (AF E LC.length s.heap.size) s.heap H locs → lv_has ls 5 [(0, .ref (E 5)), (1, .int v1), (2, .int v2), (3, .int v3), (4, .int v4)] → WV p l e rm_X5_visit s m args below meth c LC Y D E o H locs (F0 m 103 ls []) := by
  intro n
  induction n with
  | zero =>
    intro v1 v2 v3 v4 σ H locs ls h hP hS hl
    exact nomatch (show (none : Option (Unit × Sta)) = some o from h)
  | succ n ih =>
    intro v1 v2 v3 v4 σ H locs ls h hP hS hl
    rw [f_X5_visit_103] at h
    obtain ⟨hC, hb, hml, hr, hlk, hD, hSW⟩ := id hF
    have hx := hC.1
    refine lv_iload hx hb dX5_visit_103 (lv_at hl 4 rfl) ?_
    refine lv_aload_n hx hb dX5_visit_105 rfl (lv_at hl 0 rfl) ?_
    refine gf_X5_31 hC hb hP dX5_visit_106 ?_
    refine gf_X5_108 hC hb hP dX5_visit_109 ?_
    refine lv_icmp_ge (tgt := 166) hx hb dX5_visit_112 (by decide) (fun c1 => ?_) (fun c1 => ?_)
    · have h := of_t h c1
      exact t_X5_visit_166  hF σ _ _ _ h hP hS (lv_sub hl [] rfl)
    · have h := of_f h c1
      refine lv_aload_n hx hb dX5_visit_115 rfl (lv_at hl 0 rfl) ?_
      refine gf_X5_43 hC hb hP dX5_visit_116 ?_
      refine lv_if_ne (tgt := 166) hx hb dX5_visit_119 (by decide) (fun c2 => ?_) (fun c2 => ?_)
      · have h := of_f h c2
        exact t_X5_visit_166  hF σ _ _ _ h hP hS (lv_sub hl [] rfl)
      · have h := of_t h c2
        refine lv_iload_n hx hb dX5_visit_122 rfl (lv_at hl 3 rfl) ?_
        refine lv_if_ne (tgt := 166) hx hb dX5_visit_123 (by decide) (fun c3 => ?_) (fun c3 => ?_)
        · have h := of_f h c3
          exact t_X5_visit_166  hF σ _ _ _ h hP hS (lv_sub hl [] rfl)
        · have h := of_t h c3
          refine lv_aload_n hx hb dX5_visit_126 rfl (lv_at hl 0 rfl) ?_
          refine gf_X5_35 hC hb hP dX5_visit_127 ?_
          refine lv_aload_n hx hb dX5_visit_130 rfl (lv_at hl 0 rfl) ?_
          refine gf_X5_31 hC hb hP dX5_visit_131 ?_
          refine gf_X5_111 hC hb hP dX5_visit_134 ?_
          refine lv_iload hx hb dX5_visit_137 (lv_at hl 4 rfl) ?_
          obtain ⟨g4, h⟩ := of_gd h
          refine x_iald hC hb hP lc_28 g4 dX5_visit_139 ?_
          refine lv_aload_n hx hb dX5_visit_140 rfl (lv_at hl 0 rfl) ?_
          refine gf_X5_9 hC hb hP dX5_visit_141 ?_
          refine lv_iload_n hx hb dX5_visit_144 rfl (lv_at hl 2 rfl) ?_
          obtain ⟨r5, σ6, g7, h⟩ := of_bnd h
          refine x_VL (As := [.int (gA σ 28 (v4.toNatClampNeg)), .ref (E 32), .int v2]) (rest := []) hF hl hP hS (c_X0_reckon g7) (cw_X5_99 hC rfl rfl ⟨Nat.le_of_ble_eq_true rfl, Nat.le_of_ble_eq_true rfl⟩) lc_2 rfl rfl rfl (Nat.le_of_ble_eq_true rfl) dX5_visit_145 ⟨Nat.zero_le _, Nat.zero_le _⟩ (fun H locs hP hS => ?_)
          refine lv_lconst (v := 0) hx hb dX5_visit_148 (by decide) ?_
          refine W.lcmp hx hb dX5_visit_149 ?_
          refine lv_if_eq (tgt := 160) hx hb dX5_visit_150 (by decide) (fun c8 => ?_) (fun c8 => ?_)
          · have h := of_t h c8
            exact t_X5_visit_160  hF (f_X5_visit_103 n) ih v1 v2 v3 v4 σ6 _ _ _ h hP hS (lv_sub hl [0, 1, 2, 3, 4] rfl)
          · have h := of_f h c8
            refine lv_aload_n hx hb dX5_visit_153 rfl (lv_at hl 0 rfl) ?_
            refine lv_iload_n hx hb dX5_visit_154 rfl (lv_at hl 1 rfl) ?_
            refine lv_iload hx hb dX5_visit_155 (lv_at hl 4 rfl) ?_
            obtain ⟨r9, σ10, g11, h⟩ := of_bnd h
            refine x_VV (As := [.int v1, .int v4]) (rest := []) hF hl hP hS (c_X5_addChoice g11) (cw_X5_114 hC rfl rfl ⟨Nat.le_of_ble_eq_true rfl, Nat.le_of_ble_eq_true rfl⟩) lc_5 rfl rfl rfl (Nat.le_of_ble_eq_true rfl) dX5_visit_157 ⟨Nat.zero_le _, Nat.zero_le _⟩ (fun H locs hP hS => ?_)
            exact t_X5_visit_160  hF (f_X5_visit_103 n) ih v1 v2 v3 v4 σ10 _ _ _ h hP hS (lv_sub hl [0, 1, 2, 3, 4] rfl)

def f_X5_visit_99 (v1 : Int32) (v2 : Int32) (v3 : Int32) (s0 : Int32) (s1 : Int32) (σ : Sta) : Option (Unit × Sta) :=
  if s1 < 0 ∨ 100 ≤ (s1.toNatClampNeg) then none else (
  lt (sA σ 33 (upd (gA σ 33) (s1.toNatClampNeg) s0)) (fun σ2 =>
  f_X5_visit_103 FU v1 v2 v3 0 σ2))
set_option maxHeartbeats 4000000 in
set_option maxRecDepth 100000 in
theorem t_X5_visit_99 {l : Launch} {D : va_G} {Y : CYs} {E : Nat → Nat} {p : Program} {e : Env} {s : State} {m : MethodId} {args : Array Value} {below : List Frame} {meth : Method} {c : Code} (hF : Fr p s m args meth c RX5 cX5_visit 5 none D Y E LC) {o : Unit × Sta} : ∀ (v1 : Int32) (v2 : Int32) (v3 : Int32) (s0 : Int32) (s1 : Int32) (σ : Sta) (H : Heap) (locs : List Loc) (ls : Array Slot), f_X5_visit_99 v1 v2 v3 s0 s1 σ = some o → va_P D vwCl (wd Y E σ 0 LC) H → va_S (AF E LC.length s.heap.size) s.heap H locs → lv_has ls 5 [(0, .ref (E 5)), (1, .int v1), (2, .int v2), (3, .int v3)] → WV p l e rm_X5_visit s m args below meth c LC Y D E o H locs (F0 m 99 ls [.int s0, .int s1, .ref (E 33)]) := by
  intro v1 v2 v3 s0 s1 σ H locs ls h hP hS hl
  unfold f_X5_visit_99 at h
  obtain ⟨hC, hb, hml, hr, hlk, hD, hSW⟩ := id hF
  have hx := hC.1
  obtain ⟨g1, h⟩ := of_gd h
  refine x_iast lokC hC hb hP hD hS lc_33 g1 dX5_visit_99 (fun H locs σ2 eσ2 hP hS => ?_)
  have h := of_lt h eσ2
  refine lv_iconst (v := 0) hx hb dX5_visit_100 (by decide) ?_
  refine lv_istore (lv' := [(4, .int 0), (0, .ref (E 5)), (1, .int v1), (2, .int v2), (3, .int v3)]) hx hb dX5_visit_101 hl (by decide) rfl (fun ls hl => ?_)
  exact t_X5_visit_103  hF FU v1 v2 v3 0 σ2 _ _ _ h hP hS (lv_sub hl [1, 2, 3, 4, 0] rfl)

def f_X5_visit_84 (v1 : Int32) (v2 : Int32) (s0 : Int32) (σ : Sta) : Option (Unit × Sta) :=
  if s0 = 0 then
    f_X5_visit_99 v1 v2 s0 0 v1 σ
  else
    f_X5_visit_99 v1 v2 s0 (-1) v1 σ
set_option maxHeartbeats 4000000 in
set_option maxRecDepth 100000 in
theorem t_X5_visit_84 {l : Launch} {D : va_G} {Y : CYs} {E : Nat → Nat} {p : Program} {e : Env} {s : State} {m : MethodId} {args : Array Value} {below : List Frame} {meth : Method} {c : Code} (hF : Fr p s m args meth c RX5 cX5_visit 5 none D Y E LC) {o : Unit × Sta} : ∀ (v1 : Int32) (v2 : Int32) (s0 : Int32) (σ : Sta) (H : Heap) (locs : List Loc) (ls : Array Slot), f_X5_visit_84 v1 v2 s0 σ = some o → va_P D vwCl (wd Y E σ 0 LC) H → va_S (AF E LC.length s.heap.size) s.heap H locs → lv_has ls 5 [(0, .ref (E 5)), (1, .int v1), (2, .int v2)] → WV p l e rm_X5_visit s m args below meth c LC Y D E o H locs (F0 m 84 ls [.int s0]) := by
  intro v1 v2 s0 σ H locs ls h hP hS hl
  unfold f_X5_visit_84 at h
  obtain ⟨hC, hb, hml, hr, hlk, hD, hSW⟩ := id hF
  have hx := hC.1
  refine lv_istore_n (lv' := [(3, .int s0), (0, .ref (E 5)), (1, .int v1), (2, .int v2)]) hx hb dX5_visit_84 rfl hl (by decide) rfl (fun ls hl => ?_)
  refine lv_aload_n hx hb dX5_visit_85 rfl (lv_at hl 1 rfl) ?_
  refine gf_X5_15 hC hb hP dX5_visit_86 ?_
  refine lv_iload_n hx hb dX5_visit_89 rfl (lv_at hl 2 rfl) ?_
  refine lv_iload_n hx hb dX5_visit_90 rfl (lv_at hl 0 rfl) ?_
  refine lv_if_eq (tgt := 98) hx hb dX5_visit_91 (by decide) (fun c1 => ?_) (fun c1 => ?_)
  · have h := of_t h c1
    refine lv_iconst (v := 0) hx hb dX5_visit_98 (by decide) ?_
    exact t_X5_visit_99  hF v1 v2 s0 0 v1 σ _ _ _ h hP hS (lv_sub hl [1, 2, 3, 0] rfl)
  · have h := of_f h c1
    refine lv_iconst (v := -1) hx hb dX5_visit_94 (by decide) ?_
    refine lv_goto (tgt := 99) hx hb dX5_visit_95 (by decide) ?_
    exact t_X5_visit_99  hF v1 v2 s0 (-1) v1 σ _ _ _ h hP hS (lv_sub hl [1, 2, 3, 0] rfl)

def f_X5_visit_7 : Nat → Int32 → Int32 → Int32 → Sta → Option (Unit × Sta)
  | 0, _, _, _, _ => none
  | n + 1, v1, v2, v3, σ => if gI σ 197 ≤ v3 then
      bnd (f_X0_reckon (gI σ 201) v2 σ) (fun r2 σ3 =>
      if lg_cmp r2 0 = 0 then
        f_X5_visit_84 v1 v2 0 σ3
      else
        f_X5_visit_84 v1 v2 1 σ3)
    else
      if v3 < 0 ∨ 3 ≤ (v3.toNatClampNeg) then none else (
      bnd (f_X0_reckon (gA σ 25 (v3.toNatClampNeg)) v2 σ) (fun r7 σ8 =>
      if (v1 * 3) + v3 < 0 ∨ 300 ≤ (((v1 * 3) + v3).toNatClampNeg) then none else (
      lt (sJ σ8 36 (vp_updL (gJ σ8 36) (((v1 * 3) + v3).toNatClampNeg) r7)) (fun σ11 =>
      lt (v3 + 1) (fun x12 =>
      f_X5_visit_7 n v1 v2 x12 σ11)))))
set_option maxHeartbeats 4000000 in
set_option maxRecDepth 100000 in
theorem t_X5_visit_7 {l : Launch} {D : va_G} {Y : CYs} {E : Nat → Nat} {p : Program} {e : Env} {s : State} {m : MethodId} {args : Array Value} {below : List Frame} {meth : Method} {c : Code} (hF : Fr p s m args meth c RX5 cX5_visit 5 none D Y E LC) {o : Unit × Sta} : ∀ (n : Nat) (v1 : Int32) (v2 : Int32) (v3 : Int32) (σ : Sta) (H : Heap) (locs : List Loc) (ls : Array Slot), f_X5_visit_7 n v1 v2 v3 σ = some o → va_P D vwCl (wd Y E σ 0 LC) H → va_S (AF E LC.length s.heap.size) s.heap H locs → lv_has ls 5 [(0, .ref (E 5)), (1, .int v1), (2, .int v2), (3, .int v3)] → WV p l e rm_X5_visit s m args below meth c LC Y D E o H locs (F0 m 7 ls []) := by
  intro n
  induction n with
  | zero =>
    intro v1 v2 v3 σ H locs ls h hP hS hl
    exact nomatch (show (none : Option (Unit × Sta)) = some o from h)
  | succ n ih =>
    intro v1 v2 v3 σ H locs ls h hP hS hl
    rw [f_X5_visit_7] at h
    obtain ⟨hC, hb, hml, hr, hlk, hD, hSW⟩ := id hF
    have hx := hC.1
    refine lv_iload_n hx hb dX5_visit_7 rfl (lv_at hl 3 rfl) ?_
    refine lv_aload_n hx hb dX5_visit_8 rfl (lv_at hl 0 rfl) ?_
    refine gf_X5_31 hC hb hP dX5_visit_9 ?_
    refine gf_X5_93 hC hb hP dX5_visit_12 ?_
    refine lv_icmp_ge (tgt := 55) hx hb dX5_visit_15 (by decide) (fun c1 => ?_) (fun c1 => ?_)
    · have h := of_t h c1
      refine lv_aload_n hx hb dX5_visit_55 rfl (lv_at hl 0 rfl) ?_
      refine gf_X5_35 hC hb hP dX5_visit_56 ?_
      refine lv_aload_n hx hb dX5_visit_59 rfl (lv_at hl 0 rfl) ?_
      refine gf_X5_31 hC hb hP dX5_visit_60 ?_
      refine gf_X5_105 hC hb hP dX5_visit_63 ?_
      refine lv_aload_n hx hb dX5_visit_66 rfl (lv_at hl 0 rfl) ?_
      refine gf_X5_9 hC hb hP dX5_visit_67 ?_
      refine lv_iload_n hx hb dX5_visit_70 rfl (lv_at hl 2 rfl) ?_
      obtain ⟨r2, σ3, g4, h⟩ := of_bnd h
      refine x_VL (As := [.int (gI σ 201), .ref (E 32), .int v2]) (rest := []) hF hl hP hS (c_X0_reckon g4) (cw_X5_99 hC rfl rfl ⟨Nat.le_of_ble_eq_true rfl, Nat.le_of_ble_eq_true rfl⟩) lc_2 rfl rfl rfl (Nat.le_of_ble_eq_true rfl) dX5_visit_71 ⟨Nat.zero_le _, Nat.zero_le _⟩ (fun H locs hP hS => ?_)
      refine lv_lconst (v := 0) hx hb dX5_visit_74 (by decide) ?_
      refine W.lcmp hx hb dX5_visit_75 ?_
      refine lv_if_eq (tgt := 83) hx hb dX5_visit_76 (by decide) (fun c5 => ?_) (fun c5 => ?_)
      · have h := of_t h c5
        refine lv_iconst (v := 0) hx hb dX5_visit_83 (by decide) ?_
        exact t_X5_visit_84  hF v1 v2 0 σ3 _ _ _ h hP hS (lv_sub hl [0, 1, 2] rfl)
      · have h := of_f h c5
        refine lv_iconst (v := 1) hx hb dX5_visit_79 (by decide) ?_
        refine lv_goto (tgt := 84) hx hb dX5_visit_80 (by decide) ?_
        exact t_X5_visit_84  hF v1 v2 1 σ3 _ _ _ h hP hS (lv_sub hl [0, 1, 2] rfl)
    · have h := of_f h c1
      refine lv_aload_n hx hb dX5_visit_18 rfl (lv_at hl 0 rfl) ?_
      refine gf_X5_24 hC hb hP dX5_visit_19 ?_
      refine lv_iload_n hx hb dX5_visit_22 rfl (lv_at hl 1 rfl) ?_
      refine lv_iconst (v := 3) hx hb dX5_visit_23 (by decide) ?_
      refine lv_imul hx hb dX5_visit_24 ?_
      refine lv_iload_n hx hb dX5_visit_25 rfl (lv_at hl 3 rfl) ?_
      refine lv_iadd hx hb dX5_visit_26 ?_
      refine lv_aload_n hx hb dX5_visit_27 rfl (lv_at hl 0 rfl) ?_
      refine gf_X5_35 hC hb hP dX5_visit_28 ?_
      refine lv_aload_n hx hb dX5_visit_31 rfl (lv_at hl 0 rfl) ?_
      refine gf_X5_31 hC hb hP dX5_visit_32 ?_
      refine gf_X5_96 hC hb hP dX5_visit_35 ?_
      refine lv_iload_n hx hb dX5_visit_38 rfl (lv_at hl 3 rfl) ?_
      obtain ⟨g6, h⟩ := of_gd h
      refine x_iald hC hb hP lc_25 g6 dX5_visit_39 ?_
      refine lv_aload_n hx hb dX5_visit_40 rfl (lv_at hl 0 rfl) ?_
      refine gf_X5_9 hC hb hP dX5_visit_41 ?_
      refine lv_iload_n hx hb dX5_visit_44 rfl (lv_at hl 2 rfl) ?_
      obtain ⟨r7, σ8, g9, h⟩ := of_bnd h
      refine x_VL (As := [.int (gA σ 25 (v3.toNatClampNeg)), .ref (E 32), .int v2]) (rest := [.int ((v1 * 3) + v3), .ref (E 36)]) hF hl hP hS (c_X0_reckon g9) (cw_X5_99 hC rfl rfl ⟨Nat.le_of_ble_eq_true rfl, Nat.le_of_ble_eq_true rfl⟩) lc_2 rfl rfl rfl (Nat.le_of_ble_eq_true rfl) dX5_visit_45 ⟨Nat.zero_le _, Nat.zero_le _⟩ (fun H locs hP hS => ?_)
      obtain ⟨g10, h⟩ := of_gd h
      refine x_last lokC hC hb hP hD hS lc_36 g10 dX5_visit_48 (fun H locs σ11 eσ11 hP hS => ?_)
      have h := of_lt h eσ11
      obtain ⟨x12, ex12⟩ : ∃ y : Int32, y = v3 + 1 := ⟨_, rfl⟩
      have h := of_lt h ex12
      refine lv_iinc (v := x12) (lv' := [(3, .int x12), (0, .ref (E 5)), (1, .int v1), (2, .int v2)]) hx hb dX5_visit_49 hl (k := 3) rfl (by rw [ex12]; rfl) (by decide) rfl (fun ls hl => ?_)
      refine lv_goto (tgt := 7) hx hb dX5_visit_52 (by decide) ?_
      exact ih v1 v2 x12 σ11 _ _ _ h hP hS (lv_sub hl [1, 2, 3, 0] rfl)

def f_X5_visit (a1 : Int32) (σ : Sta) : Option (Unit × Sta) :=
  lt (a1 * 6) (fun x1 =>
  f_X5_visit_7 FU a1 x1 0 σ)
set_option maxHeartbeats 4000000 in
set_option maxRecDepth 100000 in
theorem c_X5_visit {l : Launch} {D : va_G} {Y : CYs} {E : Nat → Nat} {a1 : Int32} {σ : Sta} {o : Unit × Sta} (h : f_X5_visit a1 σ = some o) : MV l yX5_visit (Cond.code yX5_visit cX5_visit 5 none :: gW) rm_X5_visit LC Y D E [.ref (E 5), .int a1] σ o := by
  intro sz
  refine Met_of (Qc := fun sz => QV LC Y D E sz o) (by decide) (Nat.le_of_ble_eq_true rfl) (fun p e s m args below meth c hF hP ls hl => ?_) sz
  have hS : va_S (AF E LC.length s.heap.size) s.heap s.heap [] := va_S.rf
  have hl : lv_has ls 5 [(0, .ref (E 5)), (1, .int a1)] := hl
  show WV p l e rm_X5_visit s m args below meth c LC Y D E o s.heap [] (F0 m 0 ls [])
  unfold f_X5_visit at h
  obtain ⟨hC, hb, hml, hr, hlk, hD, hSW⟩ := id hF
  have hx := hC.1
  refine lv_iload_n hx hb dX5_visit_0 rfl (lv_at hl 1 rfl) ?_
  refine lv_bipush (v := 6) hx hb dX5_visit_1 (by decide) ?_
  refine lv_imul hx hb dX5_visit_3 ?_
  refine lv_topi (fun x1 ex1 => ?_)
  have h := of_lt h ex1
  refine lv_istore_n (lv' := [(2, .int x1), (0, .ref (E 5)), (1, .int a1)]) hx hb dX5_visit_4 rfl hl (by decide) rfl (fun ls hl => ?_)
  refine lv_iconst (v := 0) hx hb dX5_visit_5 (by decide) ?_
  refine lv_istore_n (lv' := [(3, .int 0), (2, .int x1), (0, .ref (E 5)), (1, .int a1)]) hx hb dX5_visit_6 rfl hl (by decide) rfl (fun ls hl => ?_)
  exact t_X5_visit_7  hF FU a1 x1 0 σ _ _ _ h hP hS (lv_sub hl [2, 3, 1, 0] rfl)

abbrev rm_X5_explore : Room := { frames := 6, cells := 0, slots := 0, locals := 154 }
def f_X5_explore_72 (σ : Sta) : Option (Int32 × Sta) :=
  some (gI σ 329, σ)
set_option maxHeartbeats 4000000 in
set_option maxRecDepth 100000 in
theorem t_X5_explore_72 {l : Launch} {D : va_G} {Y : CYs} {E : Nat → Nat} {p : Program} {e : Env} {s : State} {m : MethodId} {args : Array Value} {below : List Frame} {meth : Method} {c : Code} (hF : Fr p s m args meth c RX5 cX5_explore 2 (some .int) D Y E LC) {o : Int32 × Sta} : ∀ (σ : Sta) (H : Heap) (locs : List Loc) (ls : Array Slot), f_X5_explore_72 σ = some o → va_P D vwCl (wd Y E σ 0 LC) H → va_S (AF E LC.length s.heap.size) s.heap H locs → lv_has ls 2 [(0, .ref (E 5))] → WI p l e rm_X5_explore s m args below meth c LC Y D E o H locs (F0 m 72 ls []) := by
  intro σ H locs ls h hP hS hl
  unfold f_X5_explore_72 at h
  obtain ⟨hC, hb, hml, hr, hlk, hD, hSW⟩ := id hF
  have hx := hC.1
  refine lv_aload_n hx hb dX5_explore_72 rfl (lv_at hl 0 rfl) ?_
  refine gf_X5_43 hC hb hP dX5_explore_73 ?_
  exact x_iret hF hP hS h dX5_explore_76

def f_X5_explore_40 : Nat → Int32 → Sta → Option (Int32 × Sta)
  | 0, _, _ => none
  | n + 1, v1, σ => if 100 ≤ v1 then
      f_X5_explore_72 σ
    else
      if gI σ 322 ≤ v1 then
        f_X5_explore_72 σ
      else
        if gI σ 329 = 0 then
          bnd (f_X5_visit v1 σ) (fun _ σ5 =>
          lt (v1 + 1) (fun x7 =>
          f_X5_explore_40 n x7 σ5))
        else
          f_X5_explore_72 σ
set_option maxHeartbeats 4000000 in
set_option maxRecDepth 100000 in
theorem t_X5_explore_40 {l : Launch} {D : va_G} {Y : CYs} {E : Nat → Nat} {p : Program} {e : Env} {s : State} {m : MethodId} {args : Array Value} {below : List Frame} {meth : Method} {c : Code} (hF : Fr p s m args meth c RX5 cX5_explore 2 (some .int) D Y E LC) {o : Int32 × Sta} : ∀ (n : Nat) (v1 : Int32) (σ : Sta) (H : Heap) (locs : List Loc) (ls : Array Slot), f_X5_explore_40 n v1 σ = some o → va_P D vwCl (wd Y E σ 0 LC) H → va_S (AF E LC.length s.heap.size) s.heap H locs → lv_has ls 2 [(0, .ref (E 5)), (1, .int v1)] → WI p l e rm_X5_explore s m args below meth c LC Y D E o H locs (F0 m 40 ls []) := by
  intro n
  induction n with
  | zero =>
    intro v1 σ H locs ls h hP hS hl
    exact nomatch (show (none : Option (Int32 × Sta)) = some o from h)
  | succ n ih =>
    intro v1 σ H locs ls h hP hS hl
    rw [f_X5_explore_40] at h
    obtain ⟨hC, hb, hml, hr, hlk, hD, hSW⟩ := id hF
    have hx := hC.1
    refine lv_iload_n hx hb dX5_explore_40 rfl (lv_at hl 1 rfl) ?_
    refine lv_bipush (v := 100) hx hb dX5_explore_41 (by decide) ?_
    refine lv_icmp_ge (tgt := 72) hx hb dX5_explore_43 (by decide) (fun c1 => ?_) (fun c1 => ?_)
    · have h := of_t h c1
      exact t_X5_explore_72  hF σ _ _ _ h hP hS (lv_sub hl [0] rfl)
    · have h := of_f h c1
      refine lv_iload_n hx hb dX5_explore_46 rfl (lv_at hl 1 rfl) ?_
      refine lv_aload_n hx hb dX5_explore_47 rfl (lv_at hl 0 rfl) ?_
      refine gf_X5_39 hC hb hP dX5_explore_48 ?_
      refine lv_icmp_ge (tgt := 72) hx hb dX5_explore_51 (by decide) (fun c2 => ?_) (fun c2 => ?_)
      · have h := of_t h c2
        exact t_X5_explore_72  hF σ _ _ _ h hP hS (lv_sub hl [0] rfl)
      · have h := of_f h c2
        refine lv_aload_n hx hb dX5_explore_54 rfl (lv_at hl 0 rfl) ?_
        refine gf_X5_43 hC hb hP dX5_explore_55 ?_
        refine lv_if_ne (tgt := 72) hx hb dX5_explore_58 (by decide) (fun c3 => ?_) (fun c3 => ?_)
        · have h := of_f h c3
          exact t_X5_explore_72  hF σ _ _ _ h hP hS (lv_sub hl [0] rfl)
        · have h := of_t h c3
          refine lv_aload_n hx hb dX5_explore_61 rfl (lv_at hl 0 rfl) ?_
          refine lv_iload_n hx hb dX5_explore_62 rfl (lv_at hl 1 rfl) ?_
          obtain ⟨r4, σ5, g6, h⟩ := of_bnd h
          refine x_VV (As := [.int v1]) (rest := []) hF hl hP hS (c_X5_visit g6) (cw_X5_64 hC rfl rfl ⟨Nat.le_of_ble_eq_true rfl, Nat.le_of_ble_eq_true rfl⟩) lc_5 rfl rfl rfl (Nat.le_of_ble_eq_true rfl) dX5_explore_63 ⟨Nat.zero_le _, Nat.zero_le _⟩ (fun H locs hP hS => ?_)
          obtain ⟨x7, ex7⟩ : ∃ y : Int32, y = v1 + 1 := ⟨_, rfl⟩
          have h := of_lt h ex7
          refine lv_iinc (v := x7) (lv' := [(1, .int x7), (0, .ref (E 5))]) hx hb dX5_explore_66 hl (k := 1) rfl (by rw [ex7]; rfl) (by decide) rfl (fun ls hl => ?_)
          refine lv_goto (tgt := 40) hx hb dX5_explore_69 (by decide) ?_
          exact ih x7 σ5 _ _ _ h hP hS (lv_sub hl [1, 0] rfl)

def f_X5_explore (σ : Sta) : Option (Int32 × Sta) :=
  lt (sI σ 329 0) (fun σ1 =>
  lt (sI σ1 330 (-1)) (fun σ2 =>
  lt (sI σ2 322 0) (fun σ3 =>
  if (0 : Int32) < 0 ∨ (0 : Int32) < 0 ∨ (6 : Int32) < 0 ∨ 6 < ((0 : Int32).toNatClampNeg) + ((6 : Int32).toNatClampNeg) ∨ 6 < ((0 : Int32).toNatClampNeg) + ((6 : Int32).toNatClampNeg) then none else (
  lt (sA σ3 37 (va_cpy (gA σ3 20) (gA σ3 37) ((0 : Int32).toNatClampNeg) ((0 : Int32).toNatClampNeg) ((6 : Int32).toNatClampNeg))) (fun σ5 =>
  bnd (f_X5_addNext σ5) (fun r6 σ7 =>
  f_X5_explore_40 FU 0 σ7))))))
set_option maxHeartbeats 4000000 in
set_option maxRecDepth 100000 in
theorem c_X5_explore {l : Launch} {D : va_G} {Y : CYs} {E : Nat → Nat} {σ : Sta} {o : Int32 × Sta} (h : f_X5_explore σ = some o) : MI l yX5_explore (Cond.code yX5_explore cX5_explore 2 (some .int) :: gW) rm_X5_explore LC Y D E [.ref (E 5)] σ o := by
  intro sz
  refine Met_of (Qc := fun sz => QI LC Y D E sz o) (by decide) (Nat.le_of_ble_eq_true rfl) (fun p e s m args below meth c hF hP ls hl => ?_) sz
  have hS : va_S (AF E LC.length s.heap.size) s.heap s.heap [] := va_S.rf
  have hl : lv_has ls 2 [(0, .ref (E 5))] := hl
  show WI p l e rm_X5_explore s m args below meth c LC Y D E o s.heap [] (F0 m 0 ls [])
  unfold f_X5_explore at h
  obtain ⟨hC, hb, hml, hr, hlk, hD, hSW⟩ := id hF
  have hx := hC.1
  refine lv_aload_n hx hb dX5_explore_0 rfl (lv_at hl 0 rfl) ?_
  refine lv_iconst (v := 0) hx hb dX5_explore_1 (by decide) ?_
  refine pf_X5_43 hC hb hP hD hS dX5_explore_2 (fun H locs σ1 eσ1 hP hS => ?_)
  have h := of_lt h eσ1
  refine lv_aload_n hx hb dX5_explore_5 rfl (lv_at hl 0 rfl) ?_
  refine lv_iconst (v := -1) hx hb dX5_explore_6 (by decide) ?_
  refine pf_X5_46 hC hb hP hD hS dX5_explore_7 (fun H locs σ2 eσ2 hP hS => ?_)
  have h := of_lt h eσ2
  refine lv_aload_n hx hb dX5_explore_10 rfl (lv_at hl 0 rfl) ?_
  refine lv_iconst (v := 0) hx hb dX5_explore_11 (by decide) ?_
  refine pf_X5_39 hC hb hP hD hS dX5_explore_12 (fun H locs σ3 eσ3 hP hS => ?_)
  have h := of_lt h eσ3
  refine lv_aload_n hx hb dX5_explore_15 rfl (lv_at hl 0 rfl) ?_
  refine gf_X5_31 hC hb hP dX5_explore_16 ?_
  refine gf_X5_49 hC hb hP dX5_explore_19 ?_
  refine lv_iconst (v := 0) hx hb dX5_explore_22 (by decide) ?_
  refine lv_aload_n hx hb dX5_explore_23 rfl (lv_at hl 0 rfl) ?_
  refine gf_X5_28 hC hb hP dX5_explore_24 ?_
  refine lv_iconst (v := 0) hx hb dX5_explore_27 (by decide) ?_
  refine lv_bipush (v := 6) hx hb dX5_explore_28 (by decide) ?_
  obtain ⟨g4, h⟩ := of_gd h
  refine x_copyI lokC hF hl hP hS (gw_t (tb6 (List.mem_of_getElem? (i := 96) rfl)) rfl) (gw_t (tb3 (List.mem_of_getElem? (i := 106) rfl)) rfl) (gw_t (tb3 (List.mem_of_getElem? (i := 105) rfl)) rfl) (gw_t (tb1 (List.mem_of_getElem? (i := 18) rfl)) rfl) lc_20 lc_37 g4 (Nat.le_of_ble_eq_true rfl) (Nat.le_of_ble_eq_true rfl) dX5_explore_30 (fun H locs σ5 eσ5 hP hS => ?_)
  have h := of_lt h eσ5
  refine lv_aload_n hx hb dX5_explore_33 rfl (lv_at hl 0 rfl) ?_
  obtain ⟨r6, σ7, g8, h⟩ := of_bnd h
  refine x_VI (As := []) (rest := []) hF hl hP hS (c_X5_addNext g8) (cw_X5_60 hC rfl rfl ⟨Nat.le_of_ble_eq_true rfl, Nat.le_of_ble_eq_true rfl⟩) lc_5 rfl rfl rfl (Nat.le_of_ble_eq_true rfl) dX5_explore_34 ⟨Nat.zero_le _, Nat.zero_le _⟩ (fun H locs hP hS => ?_)
  refine lv_pop hx hb dX5_explore_37 rfl ?_
  refine lv_iconst (v := 0) hx hb dX5_explore_38 (by decide) ?_
  refine lv_istore_n (lv' := [(1, .int 0), (0, .ref (E 5))]) hx hb dX5_explore_39 rfl hl (by decide) rfl (fun ls hl => ?_)
  exact t_X5_explore_40  hF FU 0 σ7 _ _ _ h hP hS (lv_sub hl [1, 0] rfl)

abbrev rm_X5_commandOf : Room := { frames := 1, cells := 0, slots := 0, locals := 21 }
def f_X5_commandOf (a1 : Int32) (a2 : Int32) (σ : Sta) : Option (Int32 × Sta) :=
  bnd (f_X8_entry 34 1600 ((a1 * 16) + a2) σ) (fun r1 σ2 =>
  some (r1, σ2))
set_option maxHeartbeats 4000000 in
set_option maxRecDepth 100000 in
theorem c_X5_commandOf {l : Launch} {D : va_G} {Y : CYs} {E : Nat → Nat} {a1 : Int32} {a2 : Int32} {σ : Sta} {o : Int32 × Sta} (h : f_X5_commandOf a1 a2 σ = some o) : MI l yX5_commandOf (Cond.code yX5_commandOf cX5_commandOf 3 (some .int) :: gW) rm_X5_commandOf LC Y D E [.ref (E 5), .int a1, .int a2] σ o := by
  intro sz
  refine Met_of (Qc := fun sz => QI LC Y D E sz o) (by decide) (Nat.le_of_ble_eq_true rfl) (fun p e s m args below meth c hF hP ls hl => ?_) sz
  have hS : va_S (AF E LC.length s.heap.size) s.heap s.heap [] := va_S.rf
  have hl : lv_has ls 3 [(0, .ref (E 5)), (1, .int a1), (2, .int a2)] := hl
  show WI p l e rm_X5_commandOf s m args below meth c LC Y D E o s.heap [] (F0 m 0 ls [])
  unfold f_X5_commandOf at h
  obtain ⟨hC, hb, hml, hr, hlk, hD, hSW⟩ := id hF
  have hx := hC.1
  refine lv_aload_n hx hb dX5_commandOf_0 rfl (lv_at hl 0 rfl) ?_
  refine gf_X5_18 hC hb hP dX5_commandOf_1 ?_
  refine lv_iload_n hx hb dX5_commandOf_4 rfl (lv_at hl 1 rfl) ?_
  refine lv_bipush (v := 16) hx hb dX5_commandOf_5 (by decide) ?_
  refine lv_imul hx hb dX5_commandOf_7 ?_
  refine lv_iload_n hx hb dX5_commandOf_8 rfl (lv_at hl 2 rfl) ?_
  refine lv_iadd hx hb dX5_commandOf_9 ?_
  obtain ⟨r1, σ2, g3, h⟩ := of_bnd h
  refine x_SNI (As := [.ref (E 34), .int ((a1 * 16) + a2)]) (rest := []) hF hl hP hS (c_X8_entry lc_34 g3) (cw_X5_68 hC rfl rfl ⟨Nat.le_of_ble_eq_true rfl, Nat.le_of_ble_eq_true rfl⟩) rfl rfl (Nat.le_of_ble_eq_true rfl) dX5_commandOf_10 ⟨Nat.zero_le _, Nat.zero_le _⟩ (fun H locs hP hS => ?_)
  exact x_iret hF hP hS h dX5_commandOf_13

abbrev rm_X5_branchesOf : Room := { frames := 2, cells := 0, slots := 0, locals := 43 }
def f_X5_branchesOf (a1 : Int32) (a2 : Int32) (σ : Sta) : Option (Int32 × Sta) :=
  bnd (f_X5_commandOf a1 a2 σ) (fun r1 σ2 =>
  bnd (f_X8_entry 29 16 r1 σ2) (fun r4 σ5 =>
  some (r4, σ5)))
set_option maxHeartbeats 4000000 in
set_option maxRecDepth 100000 in
theorem c_X5_branchesOf {l : Launch} {D : va_G} {Y : CYs} {E : Nat → Nat} {a1 : Int32} {a2 : Int32} {σ : Sta} {o : Int32 × Sta} (h : f_X5_branchesOf a1 a2 σ = some o) : MI l yX5_branchesOf (Cond.code yX5_branchesOf cX5_branchesOf 3 (some .int) :: gW) rm_X5_branchesOf LC Y D E [.ref (E 5), .int a1, .int a2] σ o := by
  intro sz
  refine Met_of (Qc := fun sz => QI LC Y D E sz o) (by decide) (Nat.le_of_ble_eq_true rfl) (fun p e s m args below meth c hF hP ls hl => ?_) sz
  have hS : va_S (AF E LC.length s.heap.size) s.heap s.heap [] := va_S.rf
  have hl : lv_has ls 3 [(0, .ref (E 5)), (1, .int a1), (2, .int a2)] := hl
  show WI p l e rm_X5_branchesOf s m args below meth c LC Y D E o s.heap [] (F0 m 0 ls [])
  unfold f_X5_branchesOf at h
  obtain ⟨hC, hb, hml, hr, hlk, hD, hSW⟩ := id hF
  have hx := hC.1
  refine lv_aload_n hx hb dX5_branchesOf_0 rfl (lv_at hl 0 rfl) ?_
  refine gf_X5_31 hC hb hP dX5_branchesOf_1 ?_
  refine gf_X5_72 hC hb hP dX5_branchesOf_4 ?_
  refine lv_aload_n hx hb dX5_branchesOf_7 rfl (lv_at hl 0 rfl) ?_
  refine lv_iload_n hx hb dX5_branchesOf_8 rfl (lv_at hl 1 rfl) ?_
  refine lv_iload_n hx hb dX5_branchesOf_9 rfl (lv_at hl 2 rfl) ?_
  obtain ⟨r1, σ2, g3, h⟩ := of_bnd h
  refine x_VI (As := [.int a1, .int a2]) (rest := [.ref (E 29)]) hF hl hP hS (c_X5_commandOf g3) (cw_X5_75 hC rfl rfl ⟨Nat.le_of_ble_eq_true rfl, Nat.le_of_ble_eq_true rfl⟩) lc_5 rfl rfl rfl (Nat.le_of_ble_eq_true rfl) dX5_branchesOf_10 ⟨Nat.zero_le _, Nat.zero_le _⟩ (fun H locs hP hS => ?_)
  obtain ⟨r4, σ5, g6, h⟩ := of_bnd h
  refine x_SNI (As := [.ref (E 29), .int r1]) (rest := []) hF hl hP hS (c_X8_entry lc_29 g6) (cw_X5_68 hC rfl rfl ⟨Nat.le_of_ble_eq_true rfl, Nat.le_of_ble_eq_true rfl⟩) rfl rfl (Nat.le_of_ble_eq_true rfl) dX5_branchesOf_13 ⟨Nat.zero_le _, Nat.zero_le _⟩ (fun H locs hP hS => ?_)
  exact x_iret hF hP hS h dX5_branchesOf_16

abbrev rm_X5_chanceOf : Room := { frames := 2, cells := 0, slots := 0, locals := 43 }
def f_X5_chanceOf (a1 : Int32) (a2 : Int32) (a3 : Int32) (σ : Sta) : Option (Int32 × Sta) :=
  bnd (f_X5_commandOf a1 a2 σ) (fun r1 σ2 =>
  bnd (f_X8_entry 30 64 ((r1 * 4) + a3) σ2) (fun r4 σ5 =>
  some (r4, σ5)))
set_option maxHeartbeats 4000000 in
set_option maxRecDepth 100000 in
theorem c_X5_chanceOf {l : Launch} {D : va_G} {Y : CYs} {E : Nat → Nat} {a1 : Int32} {a2 : Int32} {a3 : Int32} {σ : Sta} {o : Int32 × Sta} (h : f_X5_chanceOf a1 a2 a3 σ = some o) : MI l yX5_chanceOf (Cond.code yX5_chanceOf cX5_chanceOf 4 (some .int) :: gW) rm_X5_chanceOf LC Y D E [.ref (E 5), .int a1, .int a2, .int a3] σ o := by
  intro sz
  refine Met_of (Qc := fun sz => QI LC Y D E sz o) (by decide) (Nat.le_of_ble_eq_true rfl) (fun p e s m args below meth c hF hP ls hl => ?_) sz
  have hS : va_S (AF E LC.length s.heap.size) s.heap s.heap [] := va_S.rf
  have hl : lv_has ls 4 [(0, .ref (E 5)), (1, .int a1), (2, .int a2), (3, .int a3)] := hl
  show WI p l e rm_X5_chanceOf s m args below meth c LC Y D E o s.heap [] (F0 m 0 ls [])
  unfold f_X5_chanceOf at h
  obtain ⟨hC, hb, hml, hr, hlk, hD, hSW⟩ := id hF
  have hx := hC.1
  refine lv_aload_n hx hb dX5_chanceOf_0 rfl (lv_at hl 0 rfl) ?_
  refine gf_X5_31 hC hb hP dX5_chanceOf_1 ?_
  refine gf_X5_79 hC hb hP dX5_chanceOf_4 ?_
  refine lv_aload_n hx hb dX5_chanceOf_7 rfl (lv_at hl 0 rfl) ?_
  refine lv_iload_n hx hb dX5_chanceOf_8 rfl (lv_at hl 1 rfl) ?_
  refine lv_iload_n hx hb dX5_chanceOf_9 rfl (lv_at hl 2 rfl) ?_
  obtain ⟨r1, σ2, g3, h⟩ := of_bnd h
  refine x_VI (As := [.int a1, .int a2]) (rest := [.ref (E 30)]) hF hl hP hS (c_X5_commandOf g3) (cw_X5_75 hC rfl rfl ⟨Nat.le_of_ble_eq_true rfl, Nat.le_of_ble_eq_true rfl⟩) lc_5 rfl rfl rfl (Nat.le_of_ble_eq_true rfl) dX5_chanceOf_10 ⟨Nat.zero_le _, Nat.zero_le _⟩ (fun H locs hP hS => ?_)
  refine lv_iconst (v := 4) hx hb dX5_chanceOf_13 (by decide) ?_
  refine lv_imul hx hb dX5_chanceOf_14 ?_
  refine lv_iload_n hx hb dX5_chanceOf_15 rfl (lv_at hl 3 rfl) ?_
  refine lv_iadd hx hb dX5_chanceOf_16 ?_
  obtain ⟨r4, σ5, g6, h⟩ := of_bnd h
  refine x_SNI (As := [.ref (E 30), .int ((r1 * 4) + a3)]) (rest := []) hF hl hP hS (c_X8_entry lc_30 g6) (cw_X5_68 hC rfl rfl ⟨Nat.le_of_ble_eq_true rfl, Nat.le_of_ble_eq_true rfl⟩) rfl rfl (Nat.le_of_ble_eq_true rfl) dX5_chanceOf_17 ⟨Nat.zero_le _, Nat.zero_le _⟩ (fun H locs hP hS => ?_)
  exact x_iret hF hP hS h dX5_chanceOf_20

abbrev rm_X5_targetOf : Room := { frames := 1, cells := 0, slots := 0, locals := 21 }
def f_X5_targetOf (a1 : Int32) (a2 : Int32) (a3 : Int32) (σ : Sta) : Option (Int32 × Sta) :=
  bnd (f_X8_entry 35 6400 ((((a1 * 16) + a2) * 4) + a3) σ) (fun r1 σ2 =>
  some (r1, σ2))
set_option maxHeartbeats 4000000 in
set_option maxRecDepth 100000 in
theorem c_X5_targetOf {l : Launch} {D : va_G} {Y : CYs} {E : Nat → Nat} {a1 : Int32} {a2 : Int32} {a3 : Int32} {σ : Sta} {o : Int32 × Sta} (h : f_X5_targetOf a1 a2 a3 σ = some o) : MI l yX5_targetOf (Cond.code yX5_targetOf cX5_targetOf 4 (some .int) :: gW) rm_X5_targetOf LC Y D E [.ref (E 5), .int a1, .int a2, .int a3] σ o := by
  intro sz
  refine Met_of (Qc := fun sz => QI LC Y D E sz o) (by decide) (Nat.le_of_ble_eq_true rfl) (fun p e s m args below meth c hF hP ls hl => ?_) sz
  have hS : va_S (AF E LC.length s.heap.size) s.heap s.heap [] := va_S.rf
  have hl : lv_has ls 4 [(0, .ref (E 5)), (1, .int a1), (2, .int a2), (3, .int a3)] := hl
  show WI p l e rm_X5_targetOf s m args below meth c LC Y D E o s.heap [] (F0 m 0 ls [])
  unfold f_X5_targetOf at h
  obtain ⟨hC, hb, hml, hr, hlk, hD, hSW⟩ := id hF
  have hx := hC.1
  refine lv_aload_n hx hb dX5_targetOf_0 rfl (lv_at hl 0 rfl) ?_
  refine gf_X5_21 hC hb hP dX5_targetOf_1 ?_
  refine lv_iload_n hx hb dX5_targetOf_4 rfl (lv_at hl 1 rfl) ?_
  refine lv_bipush (v := 16) hx hb dX5_targetOf_5 (by decide) ?_
  refine lv_imul hx hb dX5_targetOf_7 ?_
  refine lv_iload_n hx hb dX5_targetOf_8 rfl (lv_at hl 2 rfl) ?_
  refine lv_iadd hx hb dX5_targetOf_9 ?_
  refine lv_iconst (v := 4) hx hb dX5_targetOf_10 (by decide) ?_
  refine lv_imul hx hb dX5_targetOf_11 ?_
  refine lv_iload_n hx hb dX5_targetOf_12 rfl (lv_at hl 3 rfl) ?_
  refine lv_iadd hx hb dX5_targetOf_13 ?_
  obtain ⟨r1, σ2, g3, h⟩ := of_bnd h
  refine x_SNI (As := [.ref (E 35), .int ((((a1 * 16) + a2) * 4) + a3)]) (rest := []) hF hl hP hS (c_X8_entry lc_35 g3) (cw_X5_68 hC rfl rfl ⟨Nat.le_of_ble_eq_true rfl, Nat.le_of_ble_eq_true rfl⟩) rfl rfl (Nat.le_of_ble_eq_true rfl) dX5_targetOf_14 ⟨Nat.zero_le _, Nat.zero_le _⟩ (fun H locs hP hS => ?_)
  exact x_iret hF hP hS h dX5_targetOf_17

abbrev rm_X5_gainOf : Room := { frames := 2, cells := 0, slots := 0, locals := 43 }
def f_X5_gainOf_31 (v1 : Int32) (v3 : Int32) (σ : Sta) : Option (Int64 × Sta) :=
  bnd (f_X8_entry_ 36 300 ((v1 * 3) + v3) σ) (fun r1 σ2 =>
  some (r1, σ2))
set_option maxHeartbeats 4000000 in
set_option maxRecDepth 100000 in
theorem t_X5_gainOf_31 {l : Launch} {D : va_G} {Y : CYs} {E : Nat → Nat} {p : Program} {e : Env} {s : State} {m : MethodId} {args : Array Value} {below : List Frame} {meth : Method} {c : Code} (hF : Fr p s m args meth c RX5 cX5_gainOf 5 (some .long) D Y E LC) {o : Int64 × Sta} : ∀ (v1 : Int32) (v3 : Int32) (σ : Sta) (H : Heap) (locs : List Loc) (ls : Array Slot), f_X5_gainOf_31 v1 v3 σ = some o → va_P D vwCl (wd Y E σ 0 LC) H → va_S (AF E LC.length s.heap.size) s.heap H locs → lv_has ls 5 [(0, .ref (E 5)), (1, .int v1), (3, .int v3)] → WL p l e rm_X5_gainOf s m args below meth c LC Y D E o H locs (F0 m 31 ls []) := by
  intro v1 v3 σ H locs ls h hP hS hl
  unfold f_X5_gainOf_31 at h
  obtain ⟨hC, hb, hml, hr, hlk, hD, hSW⟩ := id hF
  have hx := hC.1
  refine lv_aload_n hx hb dX5_gainOf_31 rfl (lv_at hl 0 rfl) ?_
  refine gf_X5_24 hC hb hP dX5_gainOf_32 ?_
  refine lv_iload_n hx hb dX5_gainOf_35 rfl (lv_at hl 1 rfl) ?_
  refine lv_iconst (v := 3) hx hb dX5_gainOf_36 (by decide) ?_
  refine lv_imul hx hb dX5_gainOf_37 ?_
  refine lv_iload_n hx hb dX5_gainOf_38 rfl (lv_at hl 2 rfl) ?_
  refine lv_iadd hx hb dX5_gainOf_39 ?_
  obtain ⟨r1, σ2, g3, h⟩ := of_bnd h
  refine x_SNL (As := [.ref (E 36), .int ((v1 * 3) + v3)]) (rest := []) hF hl hP hS (c_X8_entry_ lc_36 g3) (cw_X5_85 hC rfl rfl ⟨Nat.le_of_ble_eq_true rfl, Nat.le_of_ble_eq_true rfl⟩) rfl rfl (Nat.le_of_ble_eq_true rfl) dX5_gainOf_40 ⟨Nat.zero_le _, Nat.zero_le _⟩ (fun H locs hP hS => ?_)
  exact x_lret hF hP hS h dX5_gainOf_43

def f_X5_gainOf (a1 : Int32) (a2 : Int32) (a3 : Int32) (σ : Sta) : Option (Int64 × Sta) :=
  bnd (f_X8_entry 24 3 a3 σ) (fun r1 σ2 =>
  if r1 < 0 then
    f_X5_gainOf_31 a1 a3 σ2
  else
    bnd (f_X5_commandOf a1 a2 σ2) (fun r5 σ6 =>
    if r1 = r5 then
      f_X5_gainOf_31 a1 a3 σ6
    else
      some (0, σ6)))
set_option maxHeartbeats 4000000 in
set_option maxRecDepth 100000 in
theorem c_X5_gainOf {l : Launch} {D : va_G} {Y : CYs} {E : Nat → Nat} {a1 : Int32} {a2 : Int32} {a3 : Int32} {σ : Sta} {o : Int64 × Sta} (h : f_X5_gainOf a1 a2 a3 σ = some o) : ML l yX5_gainOf (Cond.code yX5_gainOf cX5_gainOf 5 (some .long) :: gW) rm_X5_gainOf LC Y D E [.ref (E 5), .int a1, .int a2, .int a3] σ o := by
  intro sz
  refine Met_of (Qc := fun sz => QL LC Y D E sz o) (by decide) (Nat.le_of_ble_eq_true rfl) (fun p e s m args below meth c hF hP ls hl => ?_) sz
  have hS : va_S (AF E LC.length s.heap.size) s.heap s.heap [] := va_S.rf
  have hl : lv_has ls 5 [(0, .ref (E 5)), (1, .int a1), (2, .int a2), (3, .int a3)] := hl
  show WL p l e rm_X5_gainOf s m args below meth c LC Y D E o s.heap [] (F0 m 0 ls [])
  unfold f_X5_gainOf at h
  obtain ⟨hC, hb, hml, hr, hlk, hD, hSW⟩ := id hF
  have hx := hC.1
  refine lv_aload_n hx hb dX5_gainOf_0 rfl (lv_at hl 0 rfl) ?_
  refine gf_X5_31 hC hb hP dX5_gainOf_1 ?_
  refine gf_X5_82 hC hb hP dX5_gainOf_4 ?_
  refine lv_iload_n hx hb dX5_gainOf_7 rfl (lv_at hl 3 rfl) ?_
  obtain ⟨r1, σ2, g3, h⟩ := of_bnd h
  refine x_SNI (As := [.ref (E 24), .int a3]) (rest := []) hF hl hP hS (c_X8_entry lc_24 g3) (cw_X5_68 hC rfl rfl ⟨Nat.le_of_ble_eq_true rfl, Nat.le_of_ble_eq_true rfl⟩) rfl rfl (Nat.le_of_ble_eq_true rfl) dX5_gainOf_8 ⟨Nat.zero_le _, Nat.zero_le _⟩ (fun H locs hP hS => ?_)
  refine lv_istore (lv' := [(4, .int r1), (0, .ref (E 5)), (1, .int a1), (2, .int a2), (3, .int a3)]) hx hb dX5_gainOf_11 hl (by decide) rfl (fun ls hl => ?_)
  refine lv_iload hx hb dX5_gainOf_13 (lv_at hl 0 rfl) ?_
  refine lv_if_lt (tgt := 31) hx hb dX5_gainOf_15 (by decide) (fun c4 => ?_) (fun c4 => ?_)
  · have h := of_t h c4
    exact t_X5_gainOf_31  hF a1 a3 σ2 _ _ _ h hP hS (lv_sub hl [1, 2, 4] rfl)
  · have h := of_f h c4
    refine lv_iload hx hb dX5_gainOf_18 (lv_at hl 0 rfl) ?_
    refine lv_aload_n hx hb dX5_gainOf_20 rfl (lv_at hl 1 rfl) ?_
    refine lv_iload_n hx hb dX5_gainOf_21 rfl (lv_at hl 2 rfl) ?_
    refine lv_iload_n hx hb dX5_gainOf_22 rfl (lv_at hl 3 rfl) ?_
    obtain ⟨r5, σ6, g7, h⟩ := of_bnd h
    refine x_VI (As := [.int a1, .int a2]) (rest := [.int r1]) hF hl hP hS (c_X5_commandOf g7) (cw_X5_75 hC rfl rfl ⟨Nat.le_of_ble_eq_true rfl, Nat.le_of_ble_eq_true rfl⟩) lc_5 rfl rfl rfl (Nat.le_of_ble_eq_true rfl) dX5_gainOf_23 ⟨Nat.zero_le _, Nat.zero_le _⟩ (fun H locs hP hS => ?_)
    refine lv_icmp_eq (tgt := 31) hx hb dX5_gainOf_26 (by decide) (fun c8 => ?_) (fun c8 => ?_)
    · have h := of_t h c8
      exact t_X5_gainOf_31  hF a1 a3 σ6 _ _ _ h hP hS (lv_sub hl [1, 2, 4] rfl)
    · have h := of_f h c8
      refine lv_lconst (v := 0) hx hb dX5_gainOf_29 (by decide) ?_
      exact x_lret hF hP hS h dX5_gainOf_30

abbrev rm_X5_isGoal : Room := { frames := 1, cells := 0, slots := 0, locals := 21 }
def f_X5_isGoal_16 (s0 : Int32) (σ : Sta) : Option (Int32 × Sta) :=
  if ¬ (s0 = 0 ∨ s0 = 1) then none else (
  some (s0, σ))
set_option maxHeartbeats 4000000 in
set_option maxRecDepth 100000 in
theorem t_X5_isGoal_16 {l : Launch} {D : va_G} {Y : CYs} {E : Nat → Nat} {p : Program} {e : Env} {s : State} {m : MethodId} {args : Array Value} {below : List Frame} {meth : Method} {c : Code} (hF : Fr p s m args meth c RX5 cX5_isGoal 2 (some .boolean) D Y E LC) {o : Int32 × Sta} : ∀ (s0 : Int32) (σ : Sta) (H : Heap) (locs : List Loc) (ls : Array Slot), f_X5_isGoal_16 s0 σ = some o → va_P D vwCl (wd Y E σ 0 LC) H → va_S (AF E LC.length s.heap.size) s.heap H locs → lv_has ls 2 [] → WI p l e rm_X5_isGoal s m args below meth c LC Y D E o H locs (F0 m 16 ls [.int s0]) := by
  intro s0 σ H locs ls h hP hS hl
  unfold f_X5_isGoal_16 at h
  obtain ⟨hC, hb, hml, hr, hlk, hD, hSW⟩ := id hF
  have hx := hC.1
  obtain ⟨g1, h⟩ := of_gd h
  exact x_zret hF hP hS (zb g1) h dX5_isGoal_16

def f_X5_isGoal (a1 : Int32) (σ : Sta) : Option (Int32 × Sta) :=
  bnd (f_X8_entry 33 100 a1 σ) (fun r1 σ2 =>
  if 0 ≤ r1 then
    f_X5_isGoal_16 0 σ2
  else
    f_X5_isGoal_16 1 σ2)
set_option maxHeartbeats 4000000 in
set_option maxRecDepth 100000 in
theorem c_X5_isGoal {l : Launch} {D : va_G} {Y : CYs} {E : Nat → Nat} {a1 : Int32} {σ : Sta} {o : Int32 × Sta} (h : f_X5_isGoal a1 σ = some o) : MI l yX5_isGoal (Cond.code yX5_isGoal cX5_isGoal 2 (some .boolean) :: gW) rm_X5_isGoal LC Y D E [.ref (E 5), .int a1] σ o := by
  intro sz
  refine Met_of (Qc := fun sz => QI LC Y D E sz o) (by decide) (Nat.le_of_ble_eq_true rfl) (fun p e s m args below meth c hF hP ls hl => ?_) sz
  have hS : va_S (AF E LC.length s.heap.size) s.heap s.heap [] := va_S.rf
  have hl : lv_has ls 2 [(0, .ref (E 5)), (1, .int a1)] := hl
  show WI p l e rm_X5_isGoal s m args below meth c LC Y D E o s.heap [] (F0 m 0 ls [])
  unfold f_X5_isGoal at h
  obtain ⟨hC, hb, hml, hr, hlk, hD, hSW⟩ := id hF
  have hx := hC.1
  refine lv_aload_n hx hb dX5_isGoal_0 rfl (lv_at hl 0 rfl) ?_
  refine gf_X5_15 hC hb hP dX5_isGoal_1 ?_
  refine lv_iload_n hx hb dX5_isGoal_4 rfl (lv_at hl 1 rfl) ?_
  obtain ⟨r1, σ2, g3, h⟩ := of_bnd h
  refine x_SNI (As := [.ref (E 33), .int a1]) (rest := []) hF hl hP hS (c_X8_entry lc_33 g3) (cw_X5_68 hC rfl rfl ⟨Nat.le_of_ble_eq_true rfl, Nat.le_of_ble_eq_true rfl⟩) rfl rfl (Nat.le_of_ble_eq_true rfl) dX5_isGoal_5 ⟨Nat.zero_le _, Nat.zero_le _⟩ (fun H locs hP hS => ?_)
  refine lv_if_ge (tgt := 15) hx hb dX5_isGoal_8 (by decide) (fun c4 => ?_) (fun c4 => ?_)
  · have h := of_t h c4
    refine lv_iconst (v := 0) hx hb dX5_isGoal_15 (by decide) ?_
    exact t_X5_isGoal_16  hF 0 σ2 _ _ _ h hP hS (lv_sub hl [] rfl)
  · have h := of_f h c4
    refine lv_iconst (v := 1) hx hb dX5_isGoal_11 (by decide) ?_
    refine lv_goto (tgt := 16) hx hb dX5_isGoal_12 (by decide) ?_
    exact t_X5_isGoal_16  hF 1 σ2 _ _ _ h hP hS (lv_sub hl [] rfl)

abbrev rm_X6_takenIn : Room := { frames := 1, cells := 0, slots := 0, locals := 21 }
def f_X6_takenIn (d0 : Nat) (a1 : Int32) (a2 : Int32) (σ : Sta) : Option (Int32 × Sta) :=
  bnd (f_X8_entry (41 + 5 * d0 + 2) 3000 (((a2 - 1) * 100) + a1) σ) (fun r1 σ2 =>
  some (r1, σ2))
set_option maxHeartbeats 4000000 in
set_option maxRecDepth 100000 in
theorem c_X6_takenIn {l : Launch} {D : va_G} {Y : CYs} {E : Nat → Nat} {d0 : Nat} {a1 : Int32} {a2 : Int32} (hd0 : d0 < 13) {σ : Sta} {o : Int32 × Sta} (h : f_X6_takenIn d0 a1 a2 σ = some o) : MI l yX6_takenIn (Cond.code yX6_takenIn cX6_takenIn 3 (some .int) :: gW) rm_X6_takenIn LC Y D E [.ref (E (41 + 5 * d0)), .int a1, .int a2] σ o := by
  intro sz
  refine Met_of (Qc := fun sz => QI LC Y D E sz o) (by decide) (Nat.le_of_ble_eq_true rfl) (fun p e s m args below meth c hF hP ls hl => ?_) sz
  have hS : va_S (AF E LC.length s.heap.size) s.heap s.heap [] := va_S.rf
  have hl : lv_has ls 3 [(0, .ref (E (41 + 5 * d0))), (1, .int a1), (2, .int a2)] := hl
  show WI p l e rm_X6_takenIn s m args below meth c LC Y D E o s.heap [] (F0 m 0 ls [])
  unfold f_X6_takenIn at h
  obtain ⟨hC, hb, hml, hr, hlk, hD, hSW⟩ := id hF
  have hx := hC.1
  refine lv_aload_n hx hb dX6_takenIn_0 rfl (lv_at hl 0 rfl) ?_
  refine gf_X6_15 hC hb hP hd0 dX6_takenIn_1 ?_
  refine lv_iload_n hx hb dX6_takenIn_4 rfl (lv_at hl 2 rfl) ?_
  refine lv_iconst (v := 1) hx hb dX6_takenIn_5 (by decide) ?_
  refine lv_isub hx hb dX6_takenIn_6 ?_
  refine lv_bipush (v := 100) hx hb dX6_takenIn_7 (by decide) ?_
  refine lv_imul hx hb dX6_takenIn_9 ?_
  refine lv_iload_n hx hb dX6_takenIn_10 rfl (lv_at hl 1 rfl) ?_
  refine lv_iadd hx hb dX6_takenIn_11 ?_
  obtain ⟨r1, σ2, g3, h⟩ := of_bnd h
  refine x_SNI (As := [.ref (E (41 + 5 * d0 + 2)), .int (((a2 - 1) * 100) + a1)]) (rest := []) hF hl hP hS (c_X8_entry (lc_s2 hd0) g3) (cw_X6_25 hC rfl rfl ⟨Nat.le_of_ble_eq_true rfl, Nat.le_of_ble_eq_true rfl⟩) rfl rfl (Nat.le_of_ble_eq_true rfl) dX6_takenIn_12 ⟨Nat.zero_le _, Nat.zero_le _⟩ (fun H locs hP hS => ?_)
  exact x_iret hF hP hS h dX6_takenIn_15
