theorem pf_X1_69 {p : Program} {l : Launch} {e : Env} {R : Room} {s : State} {m : MethodId} {args : Array Value} {below : List Frame} {meth : Method} {c : Code} {H : Heap} {locs : List Loc} {cells slots : Nat} {Q : State → Prop} {D : va_G} {Y : CYs} {E : Nat → Nat} {σ : Sta} {cc : ByteArray} {pc : Nat} {ls : Array Slot} {rest : List Value} {A : Nat → Prop} {H0 : Heap} {x : Int32} (hC : Ctx p s m args RX1 D Y) (hb : c.code = cc) (hP : va_P D vwCl (wd Y E σ 0 LC) H) (hD : ∀ τ, va_D A (wd Y E τ 0 LC)) (hS : va_S A H0 H locs) (hz : x = 0 ∨ x = 1) (hdg : decode cc pc = .ok (.putfield 69, 3)) (kk : ∀ (H1 : Heap) (locs1 : List Loc) (τ : Sta), τ = sI σ 259 x → va_P D vwCl (wd Y E τ 0 LC) H1 → va_S A H0 H1 locs1 → W p l e R s m args below meth c H1 locs1 cells slots Q (F0 m (pc + 3) ls rest)) : W p l e R s m args below meth c H locs cells slots Q (F0 m pc ls (.int x :: .ref (E 4) :: rest)) :=
  x_putI lokC hC hb hP hD hS inGX1 tyX1 tyX1_ok nmX1 lc_4 rfl 3 (by decide) rfl (gw_t (tb1 (List.mem_of_getElem? (i := 179) rfl)) rfl) rfl rfl rfl (zn hz) (zfit hz) hdg kk
theorem pf_X1_43 {p : Program} {l : Launch} {e : Env} {R : Room} {s : State} {m : MethodId} {args : Array Value} {below : List Frame} {meth : Method} {c : Code} {H : Heap} {locs : List Loc} {cells slots : Nat} {Q : State → Prop} {D : va_G} {Y : CYs} {E : Nat → Nat} {σ : Sta} {cc : ByteArray} {pc : Nat} {ls : Array Slot} {rest : List Value} {A : Nat → Prop} {H0 : Heap} {x : Int32} (hC : Ctx p s m args RX1 D Y) (hb : c.code = cc) (hP : va_P D vwCl (wd Y E σ 0 LC) H) (hD : ∀ τ, va_D A (wd Y E τ 0 LC)) (hS : va_S A H0 H locs) (hdg : decode cc pc = .ok (.putfield 43, 3)) (kk : ∀ (H1 : Heap) (locs1 : List Loc) (τ : Sta), τ = sI σ 260 x → va_P D vwCl (wd Y E τ 0 LC) H1 → va_S A H0 H1 locs1 → W p l e R s m args below meth c H1 locs1 cells slots Q (F0 m (pc + 3) ls rest)) : W p l e R s m args below meth c H locs cells slots Q (F0 m pc ls (.int x :: .ref (E 4) :: rest)) :=
  x_putI lokC hC hb hP hD hS inGX1 tyX1 tyX1_ok nmX1 lc_4 rfl 4 (by decide) rfl (gw_t (tb1 (List.mem_of_getElem? (i := 180) rfl)) rfl) rfl rfl rfl rfl rfl hdg kk
theorem gf_X1_9 {p : Program} {l : Launch} {e : Env} {R : Room} {s : State} {m : MethodId} {args : Array Value} {below : List Frame} {meth : Method} {c : Code} {H : Heap} {locs : List Loc} {cells slots : Nat} {Q : State → Prop} {D : va_G} {Y : CYs} {E : Nat → Nat} {σ : Sta} {cc : ByteArray} {pc : Nat} {ls : Array Slot} {rest : List Value} (hC : Ctx p s m args RX1 D Y) (hb : c.code = cc) (hP : va_P D vwCl (wd Y E σ 0 LC) H) (hdg : decode cc pc = .ok (.getfield 9, 3)) (kk : W p l e R s m args below meth c H locs cells slots Q (F0 m (pc + 3) ls (.ref (E 1) :: rest))) : W p l e R s m args below meth c H locs cells slots Q (F0 m pc ls (.ref (E 4) :: rest)) :=
  x_getR hC hb hP inGX1 lc_4 rfl 0 (by decide) rfl (gw_t (tb1 (List.mem_of_getElem? (i := 176) rfl)) rfl) rfl hdg kk
theorem gf_X1_73 {p : Program} {l : Launch} {e : Env} {R : Room} {s : State} {m : MethodId} {args : Array Value} {below : List Frame} {meth : Method} {c : Code} {H : Heap} {locs : List Loc} {cells slots : Nat} {Q : State → Prop} {D : va_G} {Y : CYs} {E : Nat → Nat} {σ : Sta} {cc : ByteArray} {pc : Nat} {ls : Array Slot} {rest : List Value} (hC : Ctx p s m args RX1 D Y) (hb : c.code = cc) (hP : va_P D vwCl (wd Y E σ 0 LC) H) (hdg : decode cc pc = .ok (.getfield 73, 3)) (kk : W p l e R s m args below meth c H locs cells slots Q (F0 m (pc + 3) ls (.int (gI σ 67) :: rest))) : W p l e R s m args below meth c H locs cells slots Q (F0 m pc ls (.ref (E 1) :: rest)) :=
  x_getIN hC hb hP inGX7 lc_1 rfl 3 (by decide) rfl (List.mem_of_getElem? (i := 3) rfl) rfl hdg kk
theorem pf_X1_78 {p : Program} {l : Launch} {e : Env} {R : Room} {s : State} {m : MethodId} {args : Array Value} {below : List Frame} {meth : Method} {c : Code} {H : Heap} {locs : List Loc} {cells slots : Nat} {Q : State → Prop} {D : va_G} {Y : CYs} {E : Nat → Nat} {σ : Sta} {cc : ByteArray} {pc : Nat} {ls : Array Slot} {rest : List Value} {A : Nat → Prop} {H0 : Heap} {x : Int32} (hC : Ctx p s m args RX1 D Y) (hb : c.code = cc) (hP : va_P D vwCl (wd Y E σ 0 LC) H) (hD : ∀ τ, va_D A (wd Y E τ 0 LC)) (hS : va_S A H0 H locs) (hdg : decode cc pc = .ok (.putfield 78, 3)) (kk : ∀ (H1 : Heap) (locs1 : List Loc) (τ : Sta), τ = sI σ 261 x → va_P D vwCl (wd Y E τ 0 LC) H1 → va_S A H0 H1 locs1 → W p l e R s m args below meth c H1 locs1 cells slots Q (F0 m (pc + 3) ls rest)) : W p l e R s m args below meth c H locs cells slots Q (F0 m pc ls (.int x :: .ref (E 4) :: rest)) :=
  x_putI lokC hC hb hP hD hS inGX1 tyX1 tyX1_ok nmX1 lc_4 rfl 5 (by decide) rfl (gw_t (tb1 (List.mem_of_getElem? (i := 181) rfl)) rfl) rfl rfl rfl rfl rfl hdg kk
theorem pf_X1_51 {p : Program} {l : Launch} {e : Env} {R : Room} {s : State} {m : MethodId} {args : Array Value} {below : List Frame} {meth : Method} {c : Code} {H : Heap} {locs : List Loc} {cells slots : Nat} {Q : State → Prop} {D : va_G} {Y : CYs} {E : Nat → Nat} {σ : Sta} {cc : ByteArray} {pc : Nat} {ls : Array Slot} {rest : List Value} {A : Nat → Prop} {H0 : Heap} {x : Int32} (hC : Ctx p s m args RX1 D Y) (hb : c.code = cc) (hP : va_P D vwCl (wd Y E σ 0 LC) H) (hD : ∀ τ, va_D A (wd Y E τ 0 LC)) (hS : va_S A H0 H locs) (hdg : decode cc pc = .ok (.putfield 51, 3)) (kk : ∀ (H1 : Heap) (locs1 : List Loc) (τ : Sta), τ = sI σ 262 x → va_P D vwCl (wd Y E τ 0 LC) H1 → va_S A H0 H1 locs1 → W p l e R s m args below meth c H1 locs1 cells slots Q (F0 m (pc + 3) ls rest)) : W p l e R s m args below meth c H locs cells slots Q (F0 m pc ls (.int x :: .ref (E 4) :: rest)) :=
  x_putI lokC hC hb hP hD hS inGX1 tyX1 tyX1_ok nmX1 lc_4 rfl 6 (by decide) rfl (gw_t (tb1 (List.mem_of_getElem? (i := 182) rfl)) rfl) rfl rfl rfl rfl rfl hdg kk
theorem pf_X1_81 {p : Program} {l : Launch} {e : Env} {R : Room} {s : State} {m : MethodId} {args : Array Value} {below : List Frame} {meth : Method} {c : Code} {H : Heap} {locs : List Loc} {cells slots : Nat} {Q : State → Prop} {D : va_G} {Y : CYs} {E : Nat → Nat} {σ : Sta} {cc : ByteArray} {pc : Nat} {ls : Array Slot} {rest : List Value} {A : Nat → Prop} {H0 : Heap} {x : Int32} (hC : Ctx p s m args RX1 D Y) (hb : c.code = cc) (hP : va_P D vwCl (wd Y E σ 0 LC) H) (hD : ∀ τ, va_D A (wd Y E τ 0 LC)) (hS : va_S A H0 H locs) (hdg : decode cc pc = .ok (.putfield 81, 3)) (kk : ∀ (H1 : Heap) (locs1 : List Loc) (τ : Sta), τ = sI σ 263 x → va_P D vwCl (wd Y E τ 0 LC) H1 → va_S A H0 H1 locs1 → W p l e R s m args below meth c H1 locs1 cells slots Q (F0 m (pc + 3) ls rest)) : W p l e R s m args below meth c H locs cells slots Q (F0 m pc ls (.int x :: .ref (E 4) :: rest)) :=
  x_putI lokC hC hb hP hD hS inGX1 tyX1 tyX1_ok nmX1 lc_4 rfl 7 (by decide) rfl (gw_t (tb1 (List.mem_of_getElem? (i := 184) rfl)) rfl) rfl rfl rfl rfl rfl hdg kk
theorem gf_X1_15 {p : Program} {l : Launch} {e : Env} {R : Room} {s : State} {m : MethodId} {args : Array Value} {below : List Frame} {meth : Method} {c : Code} {H : Heap} {locs : List Loc} {cells slots : Nat} {Q : State → Prop} {D : va_G} {Y : CYs} {E : Nat → Nat} {σ : Sta} {cc : ByteArray} {pc : Nat} {ls : Array Slot} {rest : List Value} (hC : Ctx p s m args RX1 D Y) (hb : c.code = cc) (hP : va_P D vwCl (wd Y E σ 0 LC) H) (hdg : decode cc pc = .ok (.getfield 15, 3)) (kk : W p l e R s m args below meth c H locs cells slots Q (F0 m (pc + 3) ls (.ref (E 2) :: rest))) : W p l e R s m args below meth c H locs cells slots Q (F0 m pc ls (.ref (E 4) :: rest)) :=
  x_getR hC hb hP inGX1 lc_4 rfl 1 (by decide) rfl (gw_t (tb1 (List.mem_of_getElem? (i := 177) rfl)) rfl) rfl hdg kk
theorem cw_X1_84 {R : Room} {p : Program} {s : State} {m : MethodId} {args : Array Value} {D : va_G} {Y : CYs} {rm : Room} (hC : Ctx p s m args RX1 D Y) (hrc : rm.cells = 0) (hrs : rm.slots = 0) (hR : rm.frames + 1 ≤ R.frames ∧ 8 + (1 + 11) + rm.locals ≤ R.locals) : CallW R s args RX1 RX0 84 yX0_clear cX0_clear 1 none (Cond.code yX0_clear cX0_clear 1 none :: gW) rm 0 0 0 :=
  cwV 0 hC.2.1 (gi_V (gw_t (tb5 (List.mem_of_getElem? (i := 177) rfl)) rfl) (gw_t (tb5 (List.mem_of_getElem? (i := 178) rfl)) rfl) (gw_t (tb5 (List.mem_of_getElem? (i := 179) rfl)) rfl) (gw_t (tb1 (List.mem_of_getElem? (i := 3) rfl)) rfl) (gw_t (tb5 (List.mem_of_getElem? (i := 180) rfl)) rfl)) rfl hrc hrs ⟨rfl, by decide +kernel, by decide +kernel, by decide +kernel⟩ hR
theorem gf_X1_199 {p : Program} {l : Launch} {e : Env} {R : Room} {s : State} {m : MethodId} {args : Array Value} {below : List Frame} {meth : Method} {c : Code} {H : Heap} {locs : List Loc} {cells slots : Nat} {Q : State → Prop} {D : va_G} {Y : CYs} {E : Nat → Nat} {σ : Sta} {cc : ByteArray} {pc : Nat} {ls : Array Slot} {rest : List Value} (hC : Ctx p s m args RX1 D Y) (hb : c.code = cc) (hP : va_P D vwCl (wd Y E σ 0 LC) H) (hdg : decode cc pc = .ok (.getfield 199, 3)) (kk : W p l e R s m args below meth c H locs cells slots Q (F0 m (pc + 3) ls (.ref (E 11) :: rest))) : W p l e R s m args below meth c H locs cells slots Q (F0 m pc ls (.ref (E 1) :: rest)) :=
  x_getRN hC hb hP inGX7 lc_1 rfl 0 (by decide) rfl (List.mem_of_getElem? (i := 1) rfl) rfl hdg kk
theorem gf_X1_43 {p : Program} {l : Launch} {e : Env} {R : Room} {s : State} {m : MethodId} {args : Array Value} {below : List Frame} {meth : Method} {c : Code} {H : Heap} {locs : List Loc} {cells slots : Nat} {Q : State → Prop} {D : va_G} {Y : CYs} {E : Nat → Nat} {σ : Sta} {cc : ByteArray} {pc : Nat} {ls : Array Slot} {rest : List Value} (hC : Ctx p s m args RX1 D Y) (hb : c.code = cc) (hP : va_P D vwCl (wd Y E σ 0 LC) H) (hdg : decode cc pc = .ok (.getfield 43, 3)) (kk : W p l e R s m args below meth c H locs cells slots Q (F0 m (pc + 3) ls (.int (gI σ 260) :: rest))) : W p l e R s m args below meth c H locs cells slots Q (F0 m pc ls (.ref (E 4) :: rest)) :=
  x_getI hC hb hP inGX1 lc_4 rfl 4 (by decide) rfl (gw_t (tb1 (List.mem_of_getElem? (i := 180) rfl)) rfl) rfl hdg kk
theorem gf_X1_51 {p : Program} {l : Launch} {e : Env} {R : Room} {s : State} {m : MethodId} {args : Array Value} {below : List Frame} {meth : Method} {c : Code} {H : Heap} {locs : List Loc} {cells slots : Nat} {Q : State → Prop} {D : va_G} {Y : CYs} {E : Nat → Nat} {σ : Sta} {cc : ByteArray} {pc : Nat} {ls : Array Slot} {rest : List Value} (hC : Ctx p s m args RX1 D Y) (hb : c.code = cc) (hP : va_P D vwCl (wd Y E σ 0 LC) H) (hdg : decode cc pc = .ok (.getfield 51, 3)) (kk : W p l e R s m args below meth c H locs cells slots Q (F0 m (pc + 3) ls (.int (gI σ 262) :: rest))) : W p l e R s m args below meth c H locs cells slots Q (F0 m pc ls (.ref (E 4) :: rest)) :=
  x_getI hC hb hP inGX1 lc_4 rfl 6 (by decide) rfl (gw_t (tb1 (List.mem_of_getElem? (i := 182) rfl)) rfl) rfl hdg kk
theorem gf_X1_78 {p : Program} {l : Launch} {e : Env} {R : Room} {s : State} {m : MethodId} {args : Array Value} {below : List Frame} {meth : Method} {c : Code} {H : Heap} {locs : List Loc} {cells slots : Nat} {Q : State → Prop} {D : va_G} {Y : CYs} {E : Nat → Nat} {σ : Sta} {cc : ByteArray} {pc : Nat} {ls : Array Slot} {rest : List Value} (hC : Ctx p s m args RX1 D Y) (hb : c.code = cc) (hP : va_P D vwCl (wd Y E σ 0 LC) H) (hdg : decode cc pc = .ok (.getfield 78, 3)) (kk : W p l e R s m args below meth c H locs cells slots Q (F0 m (pc + 3) ls (.int (gI σ 261) :: rest))) : W p l e R s m args below meth c H locs cells slots Q (F0 m pc ls (.ref (E 4) :: rest)) :=
  x_getI hC hb hP inGX1 lc_4 rfl 5 (by decide) rfl (gw_t (tb1 (List.mem_of_getElem? (i := 181) rfl)) rfl) rfl hdg kk
theorem gf_X1_133 {p : Program} {l : Launch} {e : Env} {R : Room} {s : State} {m : MethodId} {args : Array Value} {below : List Frame} {meth : Method} {c : Code} {H : Heap} {locs : List Loc} {cells slots : Nat} {Q : State → Prop} {D : va_G} {Y : CYs} {E : Nat → Nat} {σ : Sta} {cc : ByteArray} {pc : Nat} {ls : Array Slot} {rest : List Value} (hC : Ctx p s m args RX1 D Y) (hb : c.code = cc) (hP : va_P D vwCl (wd Y E σ 0 LC) H) (hdg : decode cc pc = .ok (.getfield 133, 3)) (kk : W p l e R s m args below meth c H locs cells slots Q (F0 m (pc + 3) ls (.ref (E 12) :: rest))) : W p l e R s m args below meth c H locs cells slots Q (F0 m pc ls (.ref (E 1) :: rest)) :=
  x_getRN hC hb hP inGX7 lc_1 rfl 1 (by decide) rfl (List.mem_of_getElem? (i := 2) rfl) rfl hdg kk
theorem cw_X1_27 {R : Room} {p : Program} {s : State} {m : MethodId} {args : Array Value} {D : va_G} {Y : CYs} {rm : Room} (hC : Ctx p s m args RX1 D Y) (hrc : rm.cells = 0) (hrs : rm.slots = 0) (hR : rm.frames + 1 ≤ R.frames ∧ 8 + (2 + 11) + rm.locals ≤ R.locals) : CallW R s args RX1 RX1 27 yX1_look cX1_look 2 (some .int) (Cond.code yX1_look cX1_look 2 (some .int) :: gW) rm 0 0 0 :=
  cwV 0 hC.2.1 (gi_V (gw_t (tb5 (List.mem_of_getElem? (i := 181) rfl)) rfl) (gw_t (tb5 (List.mem_of_getElem? (i := 183) rfl)) rfl) (gw_s (q := (⟨"MarkovBench$Parser", "look", "()I"⟩, 8)) (lp2_ (List.mem_of_getElem? (i := 10) rfl))) (gw_t (tb1 (List.mem_of_getElem? (i := 5) rfl)) rfl) (gw_t (tb5 (List.mem_of_getElem? (i := 184) rfl)) rfl)) rfl hrc hrs ⟨rfl, by decide +kernel, by decide +kernel, by decide +kernel⟩ hR
theorem cw_X1_47 {R : Room} {p : Program} {s : State} {m : MethodId} {args : Array Value} {D : va_G} {Y : CYs} {rm : Room} (hC : Ctx p s m args RX1 D Y) (hrc : rm.cells = 0) (hrs : rm.slots = 0) (hR : rm.frames + 1 ≤ R.frames ∧ 8 + (3 + 11) + rm.locals ≤ R.locals) : CallW R s args RX1 RX1 47 yX1_fail cX1_fail 3 none (Cond.code yX1_fail cX1_fail 3 none :: gW) rm 0 0 2 :=
  cwV 2 hC.2.1 (gi_V (gw_t (tb5 (List.mem_of_getElem? (i := 193) rfl)) rfl) (gw_t (tb5 (List.mem_of_getElem? (i := 195) rfl)) rfl) (gw_s (q := (⟨"MarkovBench$Parser", "fail", "(II)V"⟩, 8)) (lp2_ (List.mem_of_getElem? (i := 13) rfl))) (gw_t (tb1 (List.mem_of_getElem? (i := 5) rfl)) rfl) (gw_t (tb5 (List.mem_of_getElem? (i := 196) rfl)) rfl)) rfl hrc hrs ⟨rfl, by decide +kernel, by decide +kernel, by decide +kernel⟩ hR
theorem cw_X1_118 {R : Room} {p : Program} {s : State} {m : MethodId} {args : Array Value} {D : va_G} {Y : CYs} {rm : Room} (hC : Ctx p s m args RX1 D Y) (hrc : rm.cells = 0) (hrs : rm.slots = 0) (hR : rm.frames + 1 ≤ R.frames ∧ 8 + (2 + 11) + rm.locals ≤ R.locals) : CallW R s args RX1 RX1 118 yX1_accept cX1_accept 2 (some .boolean) (Cond.code yX1_accept cX1_accept 2 (some .boolean) :: gW) rm 0 0 1 :=
  cwV 1 hC.2.1 (gi_V (gw_t (tb5 (List.mem_of_getElem? (i := 201) rfl)) rfl) (gw_t (tb5 (List.mem_of_getElem? (i := 203) rfl)) rfl) (gw_s (q := (⟨"MarkovBench$Parser", "accept", "(I)Z"⟩, 8)) (lp2_ (List.mem_of_getElem? (i := 15) rfl))) (gw_t (tb1 (List.mem_of_getElem? (i := 5) rfl)) rfl) (gw_t (tb5 (List.mem_of_getElem? (i := 204) rfl)) rfl)) rfl hrc hrs ⟨rfl, by decide +kernel, by decide +kernel, by decide +kernel⟩ hR
theorem cw_X1_89 {R : Room} {p : Program} {s : State} {m : MethodId} {args : Array Value} {D : va_G} {Y : CYs} {rm : Room} (hC : Ctx p s m args RX1 D Y) (hrc : rm.cells = 0) (hrs : rm.slots = 0) (hR : rm.frames + 1 ≤ R.frames ∧ 8 + (3 + 11) + rm.locals ≤ R.locals) : CallW R s args RX1 RX1 89 yX1_expect cX1_expect 3 (some .int) (Cond.code yX1_expect cX1_expect 3 (some .int) :: gW) rm 0 0 1 :=
  cwV 1 hC.2.1 (gi_V (gw_t (tb5 (List.mem_of_getElem? (i := 189) rfl)) rfl) (gw_t (tb5 (List.mem_of_getElem? (i := 191) rfl)) rfl) (gw_s (q := (⟨"MarkovBench$Parser", "expect", "(I)I"⟩, 8)) (lp2_ (List.mem_of_getElem? (i := 12) rfl))) (gw_t (tb1 (List.mem_of_getElem? (i := 5) rfl)) rfl) (gw_t (tb5 (List.mem_of_getElem? (i := 192) rfl)) rfl)) rfl hrc hrs ⟨rfl, by decide +kernel, by decide +kernel, by decide +kernel⟩ hR
theorem gf_X1_69 {p : Program} {l : Launch} {e : Env} {R : Room} {s : State} {m : MethodId} {args : Array Value} {below : List Frame} {meth : Method} {c : Code} {H : Heap} {locs : List Loc} {cells slots : Nat} {Q : State → Prop} {D : va_G} {Y : CYs} {E : Nat → Nat} {σ : Sta} {cc : ByteArray} {pc : Nat} {ls : Array Slot} {rest : List Value} (hC : Ctx p s m args RX1 D Y) (hb : c.code = cc) (hP : va_P D vwCl (wd Y E σ 0 LC) H) (hdg : decode cc pc = .ok (.getfield 69, 3)) (kk : W p l e R s m args below meth c H locs cells slots Q (F0 m (pc + 3) ls (.int (gI σ 259) :: rest))) : W p l e R s m args below meth c H locs cells slots Q (F0 m pc ls (.ref (E 4) :: rest)) :=
  x_getI hC hb hP inGX1 lc_4 rfl 3 (by decide) rfl (gw_t (tb1 (List.mem_of_getElem? (i := 179) rfl)) rfl) rfl hdg kk
theorem cw_X1_62 {R : Room} {p : Program} {s : State} {m : MethodId} {args : Array Value} {D : va_G} {Y : CYs} {rm : Room} (hC : Ctx p s m args RX1 D Y) (hrc : rm.cells = 0) (hrs : rm.slots = 0) (hR : rm.frames + 1 ≤ R.frames ∧ 8 + (4 + 11) + rm.locals ≤ R.locals) : CallW R s args RX1 RX1 62 yX1_demand cX1_demand 4 none (Cond.code yX1_demand cX1_demand 4 none :: gW) rm 0 0 3 :=
  cwV 3 hC.2.1 (gi_V (gw_t (tb5 (List.mem_of_getElem? (i := 205) rfl)) rfl) (gw_t (tb5 (List.mem_of_getElem? (i := 207) rfl)) rfl) (gw_s (q := (⟨"MarkovBench$Parser", "demand", "(ZII)V"⟩, 8)) (lp3_ (List.mem_of_getElem? (i := 0) rfl))) (gw_t (tb1 (List.mem_of_getElem? (i := 5) rfl)) rfl) (gw_t (tb5 (List.mem_of_getElem? (i := 208) rfl)) rfl)) rfl hrc hrs ⟨rfl, by decide +kernel, by decide +kernel, by decide +kernel⟩ hR
theorem gf_X1_19 {p : Program} {l : Launch} {e : Env} {R : Room} {s : State} {m : MethodId} {args : Array Value} {below : List Frame} {meth : Method} {c : Code} {H : Heap} {locs : List Loc} {cells slots : Nat} {Q : State → Prop} {D : va_G} {Y : CYs} {E : Nat → Nat} {σ : Sta} {cc : ByteArray} {pc : Nat} {ls : Array Slot} {rest : List Value} (hC : Ctx p s m args RX1 D Y) (hb : c.code = cc) (hP : va_P D vwCl (wd Y E σ 0 LC) H) (hdg : decode cc pc = .ok (.getfield 19, 3)) (kk : W p l e R s m args below meth c H locs cells slots Q (F0 m (pc + 3) ls (.ref (E 3) :: rest))) : W p l e R s m args below meth c H locs cells slots Q (F0 m pc ls (.ref (E 4) :: rest)) :=
  x_getR hC hb hP inGX1 lc_4 rfl 2 (by decide) rfl (gw_t (tb1 (List.mem_of_getElem? (i := 178) rfl)) rfl) rfl hdg kk
theorem cw_X1_107 {R : Room} {p : Program} {s : State} {m : MethodId} {args : Array Value} {D : va_G} {Y : CYs} {rm : Room} (hC : Ctx p s m args RX1 D Y) (hrc : rm.cells = 0) (hrs : rm.slots = 0) (hR : rm.frames + 1 ≤ R.frames ∧ 8 + (2 + 11) + rm.locals ≤ R.locals) : CallW R s args RX1 RX7 107 yX7_contentOf cX7_contentOf 2 (some .long) (Cond.code yX7_contentOf cX7_contentOf 2 (some .long) :: gW) rm 0 0 1 :=
  cwV 1 hC.2.1 (gi_V (gw_t (tb5 (List.mem_of_getElem? (i := 213) rfl)) rfl) (gw_t (tb5 (List.mem_of_getElem? (i := 214) rfl)) rfl) (gw_t (tb5 (List.mem_of_getElem? (i := 215) rfl)) rfl) (gw_t (tb1 (List.mem_of_getElem? (i := 2) rfl)) rfl) (gw_t (tb5 (List.mem_of_getElem? (i := 216) rfl)) rfl)) rfl hrc hrs ⟨rfl, by decide +kernel, by decide +kernel, by decide +kernel⟩ hR
theorem cw_X1_202 {R : Room} {p : Program} {s : State} {m : MethodId} {args : Array Value} {D : va_G} {Y : CYs} {rm : Room} (hC : Ctx p s m args RX1 D Y) (hrc : rm.cells = 0) (hrs : rm.slots = 0) (hR : rm.frames + 1 ≤ R.frames ∧ 8 + (3 + 11) + rm.locals ≤ R.locals) : CallW R s args RX1 RX4 202 yX4_isNameTaken cX4_isNameTaken 3 (some .boolean) (Cond.code yX4_isNameTaken cX4_isNameTaken 3 (some .boolean) :: gW) rm 0 0 1 :=
  cwV 1 hC.2.1 (gi_V (gw_t (tb5 (List.mem_of_getElem? (i := 217) rfl)) rfl) (gw_t (tb5 (List.mem_of_getElem? (i := 218) rfl)) rfl) (gw_t (tb5 (List.mem_of_getElem? (i := 219) rfl)) rfl) (gw_t (tb1 (List.mem_of_getElem? (i := 4) rfl)) rfl) (gw_t (tb5 (List.mem_of_getElem? (i := 220) rfl)) rfl)) rfl hrc hrs ⟨rfl, by decide +kernel, by decide +kernel, by decide +kernel⟩ hR
theorem cw_X1_167 {R : Room} {p : Program} {s : State} {m : MethodId} {args : Array Value} {D : va_G} {Y : CYs} {rm : Room} (hC : Ctx p s m args RX1 D Y) (hrc : rm.cells = 0) (hrs : rm.slots = 0) (hR : rm.frames + 1 ≤ R.frames ∧ 8 + (2 + 11) + rm.locals ≤ R.locals) : CallW R s args RX1 RX7 167 yX7_kindOf cX7_kindOf 2 (some .int) (Cond.code yX7_kindOf cX7_kindOf 2 (some .int) :: gW) rm 0 0 1 :=
  cwV 1 hC.2.1 (gi_V (gw_t (tb5 (List.mem_of_getElem? (i := 232) rfl)) rfl) (gw_t (tb5 (List.mem_of_getElem? (i := 233) rfl)) rfl) (gw_t (tb5 (List.mem_of_getElem? (i := 234) rfl)) rfl) (gw_t (tb1 (List.mem_of_getElem? (i := 2) rfl)) rfl) (gw_t (tb5 (List.mem_of_getElem? (i := 235) rfl)) rfl)) rfl hrc hrs ⟨rfl, by decide +kernel, by decide +kernel, by decide +kernel⟩ hR
theorem cw_X1_96 {R : Room} {p : Program} {s : State} {m : MethodId} {args : Array Value} {D : va_G} {Y : CYs} {rm : Room} (hC : Ctx p s m args RX1 D Y) (hrc : rm.cells = 0) (hrs : rm.slots = 0) (hR : rm.frames + 1 ≤ R.frames ∧ 8 + (2 + 11) + rm.locals ≤ R.locals) : CallW R s args RX1 RX1 96 yX1_demandNewName cX1_demandNewName 2 none (Cond.code yX1_demandNewName cX1_demandNewName 2 none :: gW) rm 0 0 1 :=
  cwV 1 hC.2.1 (gi_V (gw_t (tb5 (List.mem_of_getElem? (i := 209) rfl)) rfl) (gw_t (tb5 (List.mem_of_getElem? (i := 211) rfl)) rfl) (gw_s (q := (⟨"MarkovBench$Parser", "demandNewName", "(I)V"⟩, 8)) (lp3_ (List.mem_of_getElem? (i := 1) rfl))) (gw_t (tb1 (List.mem_of_getElem? (i := 5) rfl)) rfl) (gw_t (tb5 (List.mem_of_getElem? (i := 212) rfl)) rfl)) rfl hrc hrs ⟨rfl, by decide +kernel, by decide +kernel, by decide +kernel⟩ hR
theorem cw_X1_100 {R : Room} {p : Program} {s : State} {m : MethodId} {args : Array Value} {D : va_G} {Y : CYs} {rm : Room} (hC : Ctx p s m args RX1 D Y) (hrc : rm.cells = 0) (hrs : rm.slots = 0) (hR : rm.frames + 1 ≤ R.frames ∧ 8 + (3 + 11) + rm.locals ≤ R.locals) : CallW R s args RX1 RX1 100 yX1_wholeAt cX1_wholeAt 3 (some .int) (Cond.code yX1_wholeAt cX1_wholeAt 3 (some .int) :: gW) rm 0 0 1 :=
  cwV 1 hC.2.1 (gi_V (gw_t (tb5 (List.mem_of_getElem? (i := 228) rfl)) rfl) (gw_t (tb5 (List.mem_of_getElem? (i := 230) rfl)) rfl) (gw_s (q := (⟨"MarkovBench$Parser", "wholeAt", "(I)I"⟩, 8)) (lp3_ (List.mem_of_getElem? (i := 2) rfl))) (gw_t (tb1 (List.mem_of_getElem? (i := 5) rfl)) rfl) (gw_t (tb5 (List.mem_of_getElem? (i := 231) rfl)) rfl)) rfl hrc hrs ⟨rfl, by decide +kernel, by decide +kernel, by decide +kernel⟩ hR
theorem cw_X1_103 {R : Room} {p : Program} {s : State} {m : MethodId} {args : Array Value} {D : va_G} {Y : CYs} {rm : Room} (hC : Ctx p s m args RX1 D Y) (hrc : rm.cells = 0) (hrs : rm.slots = 0) (hR : rm.frames + 1 ≤ R.frames ∧ 8 + (1 + 11) + rm.locals ≤ R.locals) : CallW R s args RX1 RX1 103 yX1_isMeaningRight cX1_isMeaningRight 1 (some .boolean) (Cond.code yX1_isMeaningRight cX1_isMeaningRight 1 (some .boolean) :: gW) rm 0 0 0 :=
  cwV 0 hC.2.1 (gi_V (gw_t (tb5 (List.mem_of_getElem? (i := 236) rfl)) rfl) (gw_t (tb5 (List.mem_of_getElem? (i := 238) rfl)) rfl) (gw_s (q := (⟨"MarkovBench$Parser", "isMeaningRight", "()Z"⟩, 8)) (lp3_ (List.mem_of_getElem? (i := 3) rfl))) (gw_t (tb1 (List.mem_of_getElem? (i := 5) rfl)) rfl) (gw_t (tb5 (List.mem_of_getElem? (i := 239) rfl)) rfl)) rfl hrc hrs ⟨rfl, by decide +kernel, by decide +kernel, by decide +kernel⟩ hR
theorem cw_X1_111 {R : Room} {p : Program} {s : State} {m : MethodId} {args : Array Value} {D : va_G} {Y : CYs} {rm : Room} (hC : Ctx p s m args RX1 D Y) (hrc : rm.cells = 0) (hrs : rm.slots = 0) (hR : rm.frames + 1 ≤ R.frames ∧ 8 + (6 + 11) + rm.locals ≤ R.locals) : CallW R s args RX1 RX4 111 yX4_addVariable cX4_addVariable 6 none (Cond.code yX4_addVariable cX4_addVariable 6 none :: gW) rm 0 0 4 :=
  cwV 4 hC.2.1 (gi_V (gw_t (tb6 (List.mem_of_getElem? (i := 0) rfl)) rfl) (gw_t (tb6 (List.mem_of_getElem? (i := 1) rfl)) rfl) (gw_t (tb6 (List.mem_of_getElem? (i := 2) rfl)) rfl) (gw_t (tb1 (List.mem_of_getElem? (i := 4) rfl)) rfl) (gw_t (tb6 (List.mem_of_getElem? (i := 3) rfl)) rfl)) rfl hrc hrs ⟨rfl, by decide +kernel, by decide +kernel, by decide +kernel⟩ hR
theorem cw_X1_93 {R : Room} {p : Program} {s : State} {m : MethodId} {args : Array Value} {D : va_G} {Y : CYs} {rm : Room} (hC : Ctx p s m args RX1 D Y) (hrc : rm.cells = 0) (hrs : rm.slots = 0) (hR : rm.frames + 1 ≤ R.frames ∧ 8 + (1 + 11) + rm.locals ≤ R.locals) : CallW R s args RX1 RX1 93 yX1_readWhole cX1_readWhole 1 (some .int) (Cond.code yX1_readWhole cX1_readWhole 1 (some .int) :: gW) rm 0 0 0 :=
  cwV 0 hC.2.1 (gi_V (gw_t (tb5 (List.mem_of_getElem? (i := 197) rfl)) rfl) (gw_t (tb5 (List.mem_of_getElem? (i := 199) rfl)) rfl) (gw_s (q := (⟨"MarkovBench$Parser", "readWhole", "()I"⟩, 8)) (lp2_ (List.mem_of_getElem? (i := 14) rfl))) (gw_t (tb1 (List.mem_of_getElem? (i := 5) rfl)) rfl) (gw_t (tb5 (List.mem_of_getElem? (i := 200) rfl)) rfl)) rfl hrc hrs ⟨rfl, by decide +kernel, by decide +kernel, by decide +kernel⟩ hR
theorem gf_X1_54 {p : Program} {l : Launch} {e : Env} {R : Room} {s : State} {m : MethodId} {args : Array Value} {below : List Frame} {meth : Method} {c : Code} {H : Heap} {locs : List Loc} {cells slots : Nat} {Q : State → Prop} {D : va_G} {Y : CYs} {E : Nat → Nat} {σ : Sta} {cc : ByteArray} {pc : Nat} {ls : Array Slot} {rest : List Value} (hC : Ctx p s m args RX1 D Y) (hb : c.code = cc) (hP : va_P D vwCl (wd Y E σ 0 LC) H) (hdg : decode cc pc = .ok (.getfield 54, 3)) (kk : W p l e R s m args below meth c H locs cells slots Q (F0 m (pc + 3) ls (.int (gI σ 192) :: rest))) : W p l e R s m args below meth c H locs cells slots Q (F0 m pc ls (.ref (E 3) :: rest)) :=
  x_getIN hC hb hP inGX4 lc_3 rfl 0 (by decide) rfl (List.mem_of_getElem? (i := 6) rfl) rfl hdg kk
theorem cw_X1_185 {R : Room} {p : Program} {s : State} {m : MethodId} {args : Array Value} {D : va_G} {Y : CYs} {rm : Room} (hC : Ctx p s m args RX1 D Y) (hrc : rm.cells = 0) (hrs : rm.slots = 0) (hR : rm.frames + 1 ≤ R.frames ∧ 8 + (1 + 11) + rm.locals ≤ R.locals) : CallB R s args RX1 185 yX1_levelOf cX1_levelOf 1 (some .int) (Cond.code yX1_levelOf cX1_levelOf 1 (some .int) :: gW) rm 0 0 1 ∧ (Cond.static yX1_levelOf).before args s = true :=
  ⟨callB_of 1 hC.2.1 (gi_law (gw_t (tb6 (List.mem_of_getElem? (i := 44) rfl)) rfl)) rfl hrc hrs (hC.2.1 (Cond.initialized RX1) (gw_t (tb1 (List.mem_of_getElem? (i := 5) rfl)) rfl)) (hC.2.1 (Cond.methodLink RX1 185 yX1_levelOf) (gw_t (tb6 (List.mem_of_getElem? (i := 42) rfl)) rfl)) ⟨by decide +kernel, by decide +kernel, by decide +kernel⟩ hR, hC.2.1 (Cond.static yX1_levelOf) (gw_t (tb6 (List.mem_of_getElem? (i := 43) rfl)) rfl)⟩
theorem cw_X1_179 {R : Room} {p : Program} {s : State} {m : MethodId} {args : Array Value} {D : va_G} {Y : CYs} {rm : Room} (hC : Ctx p s m args RX1 D Y) (hrc : rm.cells = 0) (hrs : rm.slots = 0) (hR : rm.frames + 1 ≤ R.frames ∧ 8 + (6 + 11) + rm.locals ≤ R.locals) : CallW R s args RX1 RX1 179 yX1_readLevel cX1_readLevel 6 none (Cond.code yX1_readLevel cX1_readLevel 6 none :: gW) rm 0 0 2 :=
  cwV 2 hC.2.1 (gi_V (gw_t (tb6 (List.mem_of_getElem? (i := 21) rfl)) rfl) (gw_t (tb6 (List.mem_of_getElem? (i := 23) rfl)) rfl) (gw_s (q := (⟨"MarkovBench$Parser", "readLevel", "(II)V"⟩, 8)) (lp3_ (List.mem_of_getElem? (i := 7) rfl))) (gw_t (tb1 (List.mem_of_getElem? (i := 5) rfl)) rfl) (gw_t (tb6 (List.mem_of_getElem? (i := 24) rfl)) rfl)) rfl hrc hrs ⟨rfl, by decide +kernel, by decide +kernel, by decide +kernel⟩ hR
theorem cw_X1_188 {R : Room} {p : Program} {s : State} {m : MethodId} {args : Array Value} {D : va_G} {Y : CYs} {rm : Room} (hC : Ctx p s m args RX1 D Y) (hrc : rm.cells = 0) (hrs : rm.slots = 0) (hR : rm.frames + 1 ≤ R.frames ∧ 8 + (4 + 11) + rm.locals ≤ R.locals) : CallW R s args RX1 RX0 188 yX0_add cX0_add 4 none (Cond.code yX0_add cX0_add 4 none :: gW) rm 0 0 2 :=
  cwV 2 hC.2.1 (gi_V (gw_t (tb6 (List.mem_of_getElem? (i := 29) rfl)) rfl) (gw_t (tb6 (List.mem_of_getElem? (i := 30) rfl)) rfl) (gw_t (tb6 (List.mem_of_getElem? (i := 31) rfl)) rfl) (gw_t (tb1 (List.mem_of_getElem? (i := 3) rfl)) rfl) (gw_t (tb6 (List.mem_of_getElem? (i := 32) rfl)) rfl)) rfl hrc hrs ⟨rfl, by decide +kernel, by decide +kernel, by decide +kernel⟩ hR
theorem cw_X1_182 {R : Room} {p : Program} {s : State} {m : MethodId} {args : Array Value} {D : va_G} {Y : CYs} {rm : Room} (hC : Ctx p s m args RX1 D Y) (hrc : rm.cells = 0) (hrs : rm.slots = 0) (hR : rm.frames + 1 ≤ R.frames ∧ 8 + (4 + 11) + rm.locals ≤ R.locals) : CallW R s args RX1 RX1 182 yX1_readFactor cX1_readFactor 4 none (Cond.code yX1_readFactor cX1_readFactor 4 none :: gW) rm 0 0 1 :=
  cwV 1 hC.2.1 (gi_V (gw_t (tb6 (List.mem_of_getElem? (i := 25) rfl)) rfl) (gw_t (tb6 (List.mem_of_getElem? (i := 27) rfl)) rfl) (gw_s (q := (⟨"MarkovBench$Parser", "readFactor", "(I)V"⟩, 8)) (lp3_ (List.mem_of_getElem? (i := 8) rfl))) (gw_t (tb1 (List.mem_of_getElem? (i := 5) rfl)) rfl) (gw_t (tb6 (List.mem_of_getElem? (i := 28) rfl)) rfl)) rfl hrc hrs ⟨rfl, by decide +kernel, by decide +kernel, by decide +kernel⟩ hR
theorem cw_X1_192 {R : Room} {p : Program} {s : State} {m : MethodId} {args : Array Value} {D : va_G} {Y : CYs} {rm : Room} (hC : Ctx p s m args RX1 D Y) (hrc : rm.cells = 0) (hrs : rm.slots = 0) (hR : rm.frames + 1 ≤ R.frames ∧ 8 + (4 + 11) + rm.locals ≤ R.locals) : CallW R s args RX1 RX1 192 yX1_readBracket cX1_readBracket 4 none (Cond.code yX1_readBracket cX1_readBracket 4 none :: gW) rm 0 0 2 :=
  cwV 2 hC.2.1 (gi_V (gw_t (tb6 (List.mem_of_getElem? (i := 34) rfl)) rfl) (gw_t (tb6 (List.mem_of_getElem? (i := 36) rfl)) rfl) (gw_s (q := (⟨"MarkovBench$Parser", "readBracket", "(II)V"⟩, 8)) (lp3_ (List.mem_of_getElem? (i := 9) rfl))) (gw_t (tb1 (List.mem_of_getElem? (i := 5) rfl)) rfl) (gw_t (tb6 (List.mem_of_getElem? (i := 37) rfl)) rfl)) rfl hrc hrs ⟨rfl, by decide +kernel, by decide +kernel, by decide +kernel⟩ hR
theorem cw_X1_195 {R : Room} {p : Program} {s : State} {m : MethodId} {args : Array Value} {D : va_G} {Y : CYs} {rm : Room} (hC : Ctx p s m args RX1 D Y) (hrc : rm.cells = 0) (hrs : rm.slots = 0) (hR : rm.frames + 1 ≤ R.frames ∧ 8 + (3 + 11) + rm.locals ≤ R.locals) : CallW R s args RX1 RX1 195 yX1_acceptDeeper cX1_acceptDeeper 3 (some .boolean) (Cond.code yX1_acceptDeeper cX1_acceptDeeper 3 (some .boolean) :: gW) rm 0 0 2 :=
  cwV 2 hC.2.1 (gi_V (gw_t (tb6 (List.mem_of_getElem? (i := 38) rfl)) rfl) (gw_t (tb6 (List.mem_of_getElem? (i := 40) rfl)) rfl) (gw_s (q := (⟨"MarkovBench$Parser", "acceptDeeper", "(II)Z"⟩, 8)) (lp3_ (List.mem_of_getElem? (i := 10) rfl))) (gw_t (tb1 (List.mem_of_getElem? (i := 5) rfl)) rfl) (gw_t (tb6 (List.mem_of_getElem? (i := 41) rfl)) rfl)) rfl hrc hrs ⟨rfl, by decide +kernel, by decide +kernel, by decide +kernel⟩ hR
theorem cw_X1_158 {R : Room} {p : Program} {s : State} {m : MethodId} {args : Array Value} {D : va_G} {Y : CYs} {rm : Room} (hC : Ctx p s m args RX1 D Y) (hrc : rm.cells = 0) (hrs : rm.slots = 0) (hR : rm.frames + 1 ≤ R.frames ∧ 8 + (3 + 11) + rm.locals ≤ R.locals) : CallW R s args RX1 RX4 158 yX4_variableNamed cX4_variableNamed 3 (some .int) (Cond.code yX4_variableNamed cX4_variableNamed 3 (some .int) :: gW) rm 0 0 1 :=
  cwV 1 hC.2.1 (gi_V (gw_t (tb6 (List.mem_of_getElem? (i := 33) rfl)) rfl) (gw_t (tb5 (List.mem_of_getElem? (i := 222) rfl)) rfl) (gw_t (tb5 (List.mem_of_getElem? (i := 223) rfl)) rfl) (gw_t (tb1 (List.mem_of_getElem? (i := 4) rfl)) rfl) (gw_t (tb5 (List.mem_of_getElem? (i := 224) rfl)) rfl)) rfl hrc hrs ⟨rfl, by decide +kernel, by decide +kernel, by decide +kernel⟩ hR
theorem cw_X1_176 {R : Room} {p : Program} {s : State} {m : MethodId} {args : Array Value} {D : va_G} {Y : CYs} {rm : Room} (hC : Ctx p s m args RX1 D Y) (hrc : rm.cells = 0) (hrs : rm.slots = 0) (hR : rm.frames + 1 ≤ R.frames ∧ 8 + (1 + 11) + rm.locals ≤ R.locals) : CallW R s args RX1 RX0 176 yX0_beginExpression cX0_beginExpression 1 (some .int) (Cond.code yX0_beginExpression cX0_beginExpression 1 (some .int) :: gW) rm 0 0 0 :=
  cwV 0 hC.2.1 (gi_V (gw_t (tb6 (List.mem_of_getElem? (i := 17) rfl)) rfl) (gw_t (tb6 (List.mem_of_getElem? (i := 18) rfl)) rfl) (gw_t (tb6 (List.mem_of_getElem? (i := 19) rfl)) rfl) (gw_t (tb1 (List.mem_of_getElem? (i := 3) rfl)) rfl) (gw_t (tb6 (List.mem_of_getElem? (i := 20) rfl)) rfl)) rfl hrc hrs ⟨rfl, by decide +kernel, by decide +kernel, by decide +kernel⟩ hR
theorem cw_X1_122 {R : Room} {p : Program} {s : State} {m : MethodId} {args : Array Value} {D : va_G} {Y : CYs} {rm : Room} (hC : Ctx p s m args RX1 D Y) (hrc : rm.cells = 0) (hrs : rm.slots = 0) (hR : rm.frames + 1 ≤ R.frames ∧ 8 + (5 + 11) + rm.locals ≤ R.locals) : CallW R s args RX1 RX1 122 yX1_commandNamed cX1_commandNamed 5 (some .int) (Cond.code yX1_commandNamed cX1_commandNamed 5 (some .int) :: gW) rm 0 0 1 :=
  cwV 1 hC.2.1 (gi_V (gw_t (tb6 (List.mem_of_getElem? (i := 8) rfl)) rfl) (gw_t (tb6 (List.mem_of_getElem? (i := 10) rfl)) rfl) (gw_s (q := (⟨"MarkovBench$Parser", "commandNamed", "(J)I"⟩, 8)) (lp3_ (List.mem_of_getElem? (i := 5) rfl))) (gw_t (tb1 (List.mem_of_getElem? (i := 5) rfl)) rfl) (gw_t (tb6 (List.mem_of_getElem? (i := 11) rfl)) rfl)) rfl hrc hrs ⟨rfl, by decide +kernel, by decide +kernel, by decide +kernel⟩ hR
theorem cw_X1_66 {R : Room} {p : Program} {s : State} {m : MethodId} {args : Array Value} {D : va_G} {Y : CYs} {rm : Room} (hC : Ctx p s m args RX1 D Y) (hrc : rm.cells = 0) (hrs : rm.slots = 0) (hR : rm.frames + 1 ≤ R.frames ∧ 8 + (2 + 11) + rm.locals ≤ R.locals) : CallW R s args RX1 RX1 66 yX1_readExpression cX1_readExpression 2 (some .int) (Cond.code yX1_readExpression cX1_readExpression 2 (some .int) :: gW) rm 0 0 0 :=
  cwV 0 hC.2.1 (gi_V (gw_t (tb6 (List.mem_of_getElem? (i := 12) rfl)) rfl) (gw_t (tb6 (List.mem_of_getElem? (i := 14) rfl)) rfl) (gw_s (q := (⟨"MarkovBench$Parser", "readExpression", "()I"⟩, 8)) (lp3_ (List.mem_of_getElem? (i := 6) rfl))) (gw_t (tb1 (List.mem_of_getElem? (i := 5) rfl)) rfl) (gw_t (tb6 (List.mem_of_getElem? (i := 15) rfl)) rfl)) rfl hrc hrs ⟨rfl, by decide +kernel, by decide +kernel, by decide +kernel⟩ hR
theorem cw_X1_126 {R : Room} {p : Program} {s : State} {m : MethodId} {args : Array Value} {D : va_G} {Y : CYs} {rm : Room} (hC : Ctx p s m args RX1 D Y) (hrc : rm.cells = 0) (hrs : rm.slots = 0) (hR : rm.frames + 1 ≤ R.frames ∧ 8 + (5 + 11) + rm.locals ≤ R.locals) : CallW R s args RX1 RX4 126 yX4_addGain cX4_addGain 5 none (Cond.code yX4_addGain cX4_addGain 5 none :: gW) rm 0 0 3 :=
  cwV 3 hC.2.1 (gi_V (gw_t (tb6 (List.mem_of_getElem? (i := 45) rfl)) rfl) (gw_t (tb6 (List.mem_of_getElem? (i := 46) rfl)) rfl) (gw_t (tb6 (List.mem_of_getElem? (i := 47) rfl)) rfl) (gw_t (tb1 (List.mem_of_getElem? (i := 4) rfl)) rfl) (gw_t (tb6 (List.mem_of_getElem? (i := 48) rfl)) rfl)) rfl hrc hrs ⟨rfl, by decide +kernel, by decide +kernel, by decide +kernel⟩ hR
theorem gf_X1_115 {p : Program} {l : Launch} {e : Env} {R : Room} {s : State} {m : MethodId} {args : Array Value} {below : List Frame} {meth : Method} {c : Code} {H : Heap} {locs : List Loc} {cells slots : Nat} {Q : State → Prop} {D : va_G} {Y : CYs} {E : Nat → Nat} {σ : Sta} {cc : ByteArray} {pc : Nat} {ls : Array Slot} {rest : List Value} (hC : Ctx p s m args RX1 D Y) (hb : c.code = cc) (hP : va_P D vwCl (wd Y E σ 0 LC) H) (hdg : decode cc pc = .ok (.getfield 115, 3)) (kk : W p l e R s m args below meth c H locs cells slots Q (F0 m (pc + 3) ls (.int (gI σ 197) :: rest))) : W p l e R s m args below meth c H locs cells slots Q (F0 m pc ls (.ref (E 3) :: rest)) :=
  x_getIN hC hb hP inGX4 lc_3 rfl 5 (by decide) rfl (List.mem_of_getElem? (i := 13) rfl) rfl hdg kk
theorem pf_X1_130 {p : Program} {l : Launch} {e : Env} {R : Room} {s : State} {m : MethodId} {args : Array Value} {below : List Frame} {meth : Method} {c : Code} {H : Heap} {locs : List Loc} {cells slots : Nat} {Q : State → Prop} {D : va_G} {Y : CYs} {E : Nat → Nat} {σ : Sta} {cc : ByteArray} {pc : Nat} {ls : Array Slot} {rest : List Value} {A : Nat → Prop} {H0 : Heap} {x : Int32} (hC : Ctx p s m args RX1 D Y) (hb : c.code = cc) (hP : va_P D vwCl (wd Y E σ 0 LC) H) (hD : ∀ τ, va_D A (wd Y E τ 0 LC)) (hS : va_S A H0 H locs) (hdg : decode cc pc = .ok (.putfield 130, 3)) (kk : ∀ (H1 : Heap) (locs1 : List Loc) (τ : Sta), τ = sI σ 201 x → va_P D vwCl (wd Y E τ 0 LC) H1 → va_S A H0 H1 locs1 → W p l e R s m args below meth c H1 locs1 cells slots Q (F0 m (pc + 3) ls rest)) : W p l e R s m args below meth c H locs cells slots Q (F0 m pc ls (.int x :: .ref (E 3) :: rest)) :=
  x_putIN lokC hC hb hP hD hS inGX4 tyX4 tyX4_ok nmX4 lc_3 rfl 9 (by decide) rfl (List.mem_of_getElem? (i := 18) rfl) rfl rfl rfl rfl rfl hdg kk
theorem gf_X1_130 {p : Program} {l : Launch} {e : Env} {R : Room} {s : State} {m : MethodId} {args : Array Value} {below : List Frame} {meth : Method} {c : Code} {H : Heap} {locs : List Loc} {cells slots : Nat} {Q : State → Prop} {D : va_G} {Y : CYs} {E : Nat → Nat} {σ : Sta} {cc : ByteArray} {pc : Nat} {ls : Array Slot} {rest : List Value} (hC : Ctx p s m args RX1 D Y) (hb : c.code = cc) (hP : va_P D vwCl (wd Y E σ 0 LC) H) (hdg : decode cc pc = .ok (.getfield 130, 3)) (kk : W p l e R s m args below meth c H locs cells slots Q (F0 m (pc + 3) ls (.int (gI σ 201) :: rest))) : W p l e R s m args below meth c H locs cells slots Q (F0 m pc ls (.ref (E 3) :: rest)) :=
  x_getIN hC hb hP inGX4 lc_3 rfl 9 (by decide) rfl (List.mem_of_getElem? (i := 18) rfl) rfl hdg kk
theorem cw_X1_155 {R : Room} {p : Program} {s : State} {m : MethodId} {args : Array Value} {D : va_G} {Y : CYs} {rm : Room} (hC : Ctx p s m args RX1 D Y) (hrc : rm.cells = 0) (hrs : rm.slots = 0) (hR : rm.frames + 1 ≤ R.frames ∧ 8 + (5 + 11) + rm.locals ≤ R.locals) : CallW R s args RX1 RX4 155 yX4_addBranch cX4_addBranch 5 none (Cond.code yX4_addBranch cX4_addBranch 5 none :: gW) rm 0 0 1 :=
  cwV 1 hC.2.1 (gi_V (gw_t (tb6 (List.mem_of_getElem? (i := 71) rfl)) rfl) (gw_t (tb6 (List.mem_of_getElem? (i := 72) rfl)) rfl) (gw_t (tb6 (List.mem_of_getElem? (i := 73) rfl)) rfl) (gw_t (tb1 (List.mem_of_getElem? (i := 4) rfl)) rfl) (gw_t (tb6 (List.mem_of_getElem? (i := 74) rfl)) rfl)) rfl hrc hrs ⟨rfl, by decide +kernel, by decide +kernel, by decide +kernel⟩ hR
theorem cw_X1_161 {R : Room} {p : Program} {s : State} {m : MethodId} {args : Array Value} {D : va_G} {Y : CYs} {rm : Room} (hC : Ctx p s m args RX1 D Y) (hrc : rm.cells = 0) (hrs : rm.slots = 0) (hR : rm.frames + 1 ≤ R.frames ∧ 8 + (3 + 11) + rm.locals ≤ R.locals) : CallW R s args RX1 RX4 161 yX4_isSetInLatest cX4_isSetInLatest 3 (some .boolean) (Cond.code yX4_isSetInLatest cX4_isSetInLatest 3 (some .boolean) :: gW) rm 0 0 1 :=
  cwV 1 hC.2.1 (gi_V (gw_t (tb6 (List.mem_of_getElem? (i := 76) rfl)) rfl) (gw_t (tb6 (List.mem_of_getElem? (i := 77) rfl)) rfl) (gw_t (tb6 (List.mem_of_getElem? (i := 78) rfl)) rfl) (gw_t (tb1 (List.mem_of_getElem? (i := 4) rfl)) rfl) (gw_t (tb6 (List.mem_of_getElem? (i := 79) rfl)) rfl)) rfl hrc hrs ⟨rfl, by decide +kernel, by decide +kernel, by decide +kernel⟩ hR
theorem cw_X1_164 {R : Room} {p : Program} {s : State} {m : MethodId} {args : Array Value} {D : va_G} {Y : CYs} {rm : Room} (hC : Ctx p s m args RX1 D Y) (hrc : rm.cells = 0) (hrs : rm.slots = 0) (hR : rm.frames + 1 ≤ R.frames ∧ 8 + (4 + 11) + rm.locals ≤ R.locals) : CallW R s args RX1 RX4 164 yX4_addSetting cX4_addSetting 4 none (Cond.code yX4_addSetting cX4_addSetting 4 none :: gW) rm 0 0 2 :=
  cwV 2 hC.2.1 (gi_V (gw_t (tb6 (List.mem_of_getElem? (i := 84) rfl)) rfl) (gw_t (tb6 (List.mem_of_getElem? (i := 85) rfl)) rfl) (gw_t (tb6 (List.mem_of_getElem? (i := 86) rfl)) rfl) (gw_t (tb1 (List.mem_of_getElem? (i := 4) rfl)) rfl) (gw_t (tb6 (List.mem_of_getElem? (i := 87) rfl)) rfl)) rfl hrc hrs ⟨rfl, by decide +kernel, by decide +kernel, by decide +kernel⟩ hR
theorem cw_X1_150 {R : Room} {p : Program} {s : State} {m : MethodId} {args : Array Value} {D : va_G} {Y : CYs} {rm : Room} (hC : Ctx p s m args RX1 D Y) (hrc : rm.cells = 0) (hrs : rm.slots = 0) (hR : rm.frames + 1 ≤ R.frames ∧ 8 + (1 + 11) + rm.locals ≤ R.locals) : CallW R s args RX1 RX4 150 yX4_latestBranches cX4_latestBranches 1 (some .int) (Cond.code yX4_latestBranches cX4_latestBranches 1 (some .int) :: gW) rm 0 0 0 :=
  cwV 0 hC.2.1 (gi_V (gw_t (tb6 (List.mem_of_getElem? (i := 66) rfl)) rfl) (gw_t (tb6 (List.mem_of_getElem? (i := 67) rfl)) rfl) (gw_t (tb6 (List.mem_of_getElem? (i := 68) rfl)) rfl) (gw_t (tb1 (List.mem_of_getElem? (i := 4) rfl)) rfl) (gw_t (tb6 (List.mem_of_getElem? (i := 69) rfl)) rfl)) rfl hrc hrs ⟨rfl, by decide +kernel, by decide +kernel, by decide +kernel⟩ hR
theorem cw_X1_137 {R : Room} {p : Program} {s : State} {m : MethodId} {args : Array Value} {D : va_G} {Y : CYs} {rm : Room} (hC : Ctx p s m args RX1 D Y) (hrc : rm.cells = 0) (hrs : rm.slots = 0) (hR : rm.frames + 1 ≤ R.frames ∧ 8 + (2 + 11) + rm.locals ≤ R.locals) : va_CN R s args RX1 137 yX8_entry "MarkovBench" cX8_entry 2 (some .int) (Cond.code yX8_entry cX8_entry 2 (some .int) :: gW) rm 0 0 2 ∧ (Cond.static yX8_entry).before args s = true :=
  ⟨va_cnB 2 hC.2.1 (gi_law (gw_t (tb2 (List.mem_of_getElem? (i := 219) rfl)) rfl)) rfl hrc hrs (hC.2.2.2.2.1 (Cond.methodLinkNest RX1 137 yX8_entry "MarkovBench") (List.mem_of_getElem? (i := 54) rfl)) (hC.2.1 (Cond.initialized RX8) (gw_t (tb1 (List.mem_of_getElem? (i := 1) rfl)) rfl)) ⟨by decide +kernel, by decide +kernel, by decide +kernel⟩ hR, hC.2.1 _ (gw_t (tb2 (List.mem_of_getElem? (i := 218) rfl)) rfl)⟩
theorem cw_X1_141 {R : Room} {p : Program} {s : State} {m : MethodId} {args : Array Value} {D : va_G} {Y : CYs} {rm : Room} (hC : Ctx p s m args RX1 D Y) (hrc : rm.cells = 0) (hrs : rm.slots = 0) (hR : rm.frames + 1 ≤ R.frames ∧ 8 + (5 + 11) + rm.locals ≤ R.locals) : CallW R s args RX1 RX4 141 yX4_addCommand cX4_addCommand 5 none (Cond.code yX4_addCommand cX4_addCommand 5 none :: gW) rm 0 0 3 :=
  cwV 3 hC.2.1 (gi_V (gw_t (tb6 (List.mem_of_getElem? (i := 58) rfl)) rfl) (gw_t (tb6 (List.mem_of_getElem? (i := 59) rfl)) rfl) (gw_t (tb6 (List.mem_of_getElem? (i := 60) rfl)) rfl) (gw_t (tb1 (List.mem_of_getElem? (i := 4) rfl)) rfl) (gw_t (tb6 (List.mem_of_getElem? (i := 61) rfl)) rfl)) rfl hrc hrs ⟨rfl, by decide +kernel, by decide +kernel, by decide +kernel⟩ hR
theorem cw_X1_144 {R : Room} {p : Program} {s : State} {m : MethodId} {args : Array Value} {D : va_G} {Y : CYs} {rm : Room} (hC : Ctx p s m args RX1 D Y) (hrc : rm.cells = 0) (hrs : rm.slots = 0) (hR : rm.frames + 1 ≤ R.frames ∧ 8 + (9 + 11) + rm.locals ≤ R.locals) : CallW R s args RX1 RX1 144 yX1_readBranch cX1_readBranch 9 none (Cond.code yX1_readBranch cX1_readBranch 9 none :: gW) rm 0 0 0 :=
  cwV 0 hC.2.1 (gi_V (gw_t (tb6 (List.mem_of_getElem? (i := 62) rfl)) rfl) (gw_t (tb6 (List.mem_of_getElem? (i := 64) rfl)) rfl) (gw_s (q := (⟨"MarkovBench$Parser", "readBranch", "()V"⟩, 8)) (lp3_ (List.mem_of_getElem? (i := 13) rfl))) (gw_t (tb1 (List.mem_of_getElem? (i := 5) rfl)) rfl) (gw_t (tb6 (List.mem_of_getElem? (i := 65) rfl)) rfl)) rfl hrc hrs ⟨rfl, by decide +kernel, by decide +kernel, by decide +kernel⟩ hR
theorem cw_X1_147 {R : Room} {p : Program} {s : State} {m : MethodId} {args : Array Value} {D : va_G} {Y : CYs} {rm : Room} (hC : Ctx p s m args RX1 D Y) (hrc : rm.cells = 0) (hrs : rm.slots = 0) (hR : rm.frames + 1 ≤ R.frames ∧ 8 + (3 + 11) + rm.locals ≤ R.locals) : CallW R s args RX1 RX4 147 yX4_latestChances cX4_latestChances 3 (some .int) (Cond.code yX4_latestChances cX4_latestChances 3 (some .int) :: gW) rm 0 0 0 :=
  cwV 0 hC.2.1 (gi_V (gw_t (tb6 (List.mem_of_getElem? (i := 88) rfl)) rfl) (gw_t (tb6 (List.mem_of_getElem? (i := 89) rfl)) rfl) (gw_t (tb6 (List.mem_of_getElem? (i := 90) rfl)) rfl) (gw_t (tb1 (List.mem_of_getElem? (i := 4) rfl)) rfl) (gw_t (tb6 (List.mem_of_getElem? (i := 91) rfl)) rfl)) rfl hrc hrs ⟨rfl, by decide +kernel, by decide +kernel, by decide +kernel⟩ hR
theorem gf_X1_59 {p : Program} {l : Launch} {e : Env} {R : Room} {s : State} {m : MethodId} {args : Array Value} {below : List Frame} {meth : Method} {c : Code} {H : Heap} {locs : List Loc} {cells slots : Nat} {Q : State → Prop} {D : va_G} {Y : CYs} {E : Nat → Nat} {σ : Sta} {cc : ByteArray} {pc : Nat} {ls : Array Slot} {rest : List Value} (hC : Ctx p s m args RX1 D Y) (hb : c.code = cc) (hP : va_P D vwCl (wd Y E σ 0 LC) H) (hdg : decode cc pc = .ok (.getfield 59, 3)) (kk : W p l e R s m args below meth c H locs cells slots Q (F0 m (pc + 3) ls (.int (gI σ 202) :: rest))) : W p l e R s m args below meth c H locs cells slots Q (F0 m pc ls (.ref (E 3) :: rest)) :=
  x_getIN hC hb hP inGX4 lc_3 rfl 10 (by decide) rfl (List.mem_of_getElem? (i := 20) rfl) rfl hdg kk
theorem cw_X1_31 {R : Room} {p : Program} {s : State} {m : MethodId} {args : Array Value} {D : va_G} {Y : CYs} {rm : Room} (hC : Ctx p s m args RX1 D Y) (hrc : rm.cells = 0) (hrs : rm.slots = 0) (hR : rm.frames + 1 ≤ R.frames ∧ 8 + (9 + 11) + rm.locals ≤ R.locals) : CallW R s args RX1 RX1 31 yX1_readVariable cX1_readVariable 9 none (Cond.code yX1_readVariable cX1_readVariable 9 none :: gW) rm 0 0 0 :=
  cwV 0 hC.2.1 (gi_V (gw_t (tb5 (List.mem_of_getElem? (i := 185) rfl)) rfl) (gw_t (tb5 (List.mem_of_getElem? (i := 187) rfl)) rfl) (gw_s (q := (⟨"MarkovBench$Parser", "readVariable", "()V"⟩, 8)) (lp2_ (List.mem_of_getElem? (i := 11) rfl))) (gw_t (tb1 (List.mem_of_getElem? (i := 5) rfl)) rfl) (gw_t (tb5 (List.mem_of_getElem? (i := 188) rfl)) rfl)) rfl hrc hrs ⟨rfl, by decide +kernel, by decide +kernel, by decide +kernel⟩ hR
theorem cw_X1_34 {R : Room} {p : Program} {s : State} {m : MethodId} {args : Array Value} {D : va_G} {Y : CYs} {rm : Room} (hC : Ctx p s m args RX1 D Y) (hrc : rm.cells = 0) (hrs : rm.slots = 0) (hR : rm.frames + 1 ≤ R.frames ∧ 8 + (4 + 11) + rm.locals ≤ R.locals) : CallW R s args RX1 RX1 34 yX1_readGain cX1_readGain 4 none (Cond.code yX1_readGain cX1_readGain 4 none :: gW) rm 0 0 0 :=
  cwV 0 hC.2.1 (gi_V (gw_t (tb6 (List.mem_of_getElem? (i := 4) rfl)) rfl) (gw_t (tb6 (List.mem_of_getElem? (i := 6) rfl)) rfl) (gw_s (q := (⟨"MarkovBench$Parser", "readGain", "()V"⟩, 8)) (lp3_ (List.mem_of_getElem? (i := 4) rfl))) (gw_t (tb1 (List.mem_of_getElem? (i := 5) rfl)) rfl) (gw_t (tb6 (List.mem_of_getElem? (i := 7) rfl)) rfl)) rfl hrc hrs ⟨rfl, by decide +kernel, by decide +kernel, by decide +kernel⟩ hR
theorem cw_X1_37 {R : Room} {p : Program} {s : State} {m : MethodId} {args : Array Value} {D : va_G} {Y : CYs} {rm : Room} (hC : Ctx p s m args RX1 D Y) (hrc : rm.cells = 0) (hrs : rm.slots = 0) (hR : rm.frames + 1 ≤ R.frames ∧ 8 + (2 + 11) + rm.locals ≤ R.locals) : CallW R s args RX1 RX1 37 yX1_readGoal cX1_readGoal 2 none (Cond.code yX1_readGoal cX1_readGoal 2 none :: gW) rm 0 0 0 :=
  cwV 0 hC.2.1 (gi_V (gw_t (tb6 (List.mem_of_getElem? (i := 49) rfl)) rfl) (gw_t (tb6 (List.mem_of_getElem? (i := 51) rfl)) rfl) (gw_s (q := (⟨"MarkovBench$Parser", "readGoal", "()V"⟩, 8)) (lp3_ (List.mem_of_getElem? (i := 11) rfl))) (gw_t (tb1 (List.mem_of_getElem? (i := 5) rfl)) rfl) (gw_t (tb6 (List.mem_of_getElem? (i := 52) rfl)) rfl)) rfl hrc hrs ⟨rfl, by decide +kernel, by decide +kernel, by decide +kernel⟩ hR
theorem cw_X1_40 {R : Room} {p : Program} {s : State} {m : MethodId} {args : Array Value} {D : va_G} {Y : CYs} {rm : Room} (hC : Ctx p s m args RX1 D Y) (hrc : rm.cells = 0) (hrs : rm.slots = 0) (hR : rm.frames + 1 ≤ R.frames ∧ 8 + (4 + 11) + rm.locals ≤ R.locals) : CallW R s args RX1 RX1 40 yX1_readCommand cX1_readCommand 4 none (Cond.code yX1_readCommand cX1_readCommand 4 none :: gW) rm 0 0 0 :=
  cwV 0 hC.2.1 (gi_V (gw_t (tb6 (List.mem_of_getElem? (i := 53) rfl)) rfl) (gw_t (tb6 (List.mem_of_getElem? (i := 55) rfl)) rfl) (gw_s (q := (⟨"MarkovBench$Parser", "readCommand", "()V"⟩, 8)) (lp3_ (List.mem_of_getElem? (i := 12) rfl))) (gw_t (tb1 (List.mem_of_getElem? (i := 5) rfl)) rfl) (gw_t (tb6 (List.mem_of_getElem? (i := 56) rfl)) rfl)) rfl hrc hrs ⟨rfl, by decide +kernel, by decide +kernel, by decide +kernel⟩ hR
theorem cw_X1_23 {R : Room} {p : Program} {s : State} {m : MethodId} {args : Array Value} {D : va_G} {Y : CYs} {rm : Room} (hC : Ctx p s m args RX1 D Y) (hrc : rm.cells = 0) (hrs : rm.slots = 0) (hR : rm.frames + 1 ≤ R.frames ∧ 8 + (2 + 11) + rm.locals ≤ R.locals) : CallW R s args RX1 RX1 23 yX1_begin cX1_begin 2 none (Cond.code yX1_begin cX1_begin 2 none :: gW) rm 0 0 1 :=
  cwV 1 hC.2.1 (gi_V (gw_t (tb5 (List.mem_of_getElem? (i := 173) rfl)) rfl) (gw_t (tb5 (List.mem_of_getElem? (i := 175) rfl)) rfl) (gw_s (q := (⟨"MarkovBench$Parser", "begin", "(Z)V"⟩, 8)) (lp2_ (List.mem_of_getElem? (i := 9) rfl))) (gw_t (tb1 (List.mem_of_getElem? (i := 5) rfl)) rfl) (gw_t (tb5 (List.mem_of_getElem? (i := 176) rfl)) rfl)) rfl hrc hrs ⟨rfl, by decide +kernel, by decide +kernel, by decide +kernel⟩ hR
abbrev rm_X1_begin : Room := { frames := 1, cells := 0, slots := 0, locals := 20 }
def f_X1_begin (a1 : Int32) (σ : Sta) : Option (Unit × Sta) :=
  if ¬ (a1 = 0 ∨ a1 = 1) then none else (
  lt (sI σ 259 a1) (fun σ2 =>
  lt (sI σ2 260 0) (fun σ3 =>
  lt (sI σ3 261 (gI σ3 67)) (fun σ4 =>
  lt (sI σ4 262 0) (fun σ5 =>
  lt (sI σ5 263 (-1)) (fun σ6 =>
  bnd (f_X0_clear σ6) (fun _ σ8 =>
  some ((), σ8))))))))
set_option maxHeartbeats 4000000 in
set_option maxRecDepth 100000 in
theorem c_X1_begin {l : Launch} {D : va_G} {Y : CYs} {E : Nat → Nat} {a1 : Int32} {σ : Sta} {o : Unit × Sta} (h : f_X1_begin a1 σ = some o) : MV l yX1_begin (Cond.code yX1_begin cX1_begin 2 none :: gW) rm_X1_begin LC Y D E [.ref (E 4), .int a1] σ o := by
  intro sz
  refine Met_of (Qc := fun sz => QV LC Y D E sz o) (by decide) (Nat.le_of_ble_eq_true rfl) (fun p e s m args below meth c hF hP ls hl => ?_) sz
  have hS : va_S (AF E LC.length s.heap.size) s.heap s.heap [] := va_S.rf
  have hl : lv_has ls 2 [(0, .ref (E 4)), (1, .int a1)] := hl
  show WV p l e rm_X1_begin s m args below meth c LC Y D E o s.heap [] (F0 m 0 ls [])
  unfold f_X1_begin at h
  obtain ⟨hC, hb, hml, hr, hlk, hD, hSW⟩ := id hF
  have hx := hC.1
  refine lv_aload_n hx hb dX1_begin_0 rfl (lv_at hl 0 rfl) ?_
  refine lv_iload_n hx hb dX1_begin_1 rfl (lv_at hl 1 rfl) ?_
  obtain ⟨g1, h⟩ := of_gd h
  refine pf_X1_69 hC hb hP hD hS (Decidable.not_not.mp g1) dX1_begin_2 (fun H locs σ2 eσ2 hP hS => ?_)
  have h := of_lt h eσ2
  refine lv_aload_n hx hb dX1_begin_5 rfl (lv_at hl 0 rfl) ?_
  refine lv_iconst (v := 0) hx hb dX1_begin_6 (by decide) ?_
  refine pf_X1_43 hC hb hP hD hS dX1_begin_7 (fun H locs σ3 eσ3 hP hS => ?_)
  have h := of_lt h eσ3
  refine lv_aload_n hx hb dX1_begin_10 rfl (lv_at hl 0 rfl) ?_
  refine lv_aload_n hx hb dX1_begin_11 rfl (lv_at hl 0 rfl) ?_
  refine gf_X1_9 hC hb hP dX1_begin_12 ?_
  refine gf_X1_73 hC hb hP dX1_begin_15 ?_
  refine pf_X1_78 hC hb hP hD hS dX1_begin_18 (fun H locs σ4 eσ4 hP hS => ?_)
  have h := of_lt h eσ4
  refine lv_aload_n hx hb dX1_begin_21 rfl (lv_at hl 0 rfl) ?_
  refine lv_iconst (v := 0) hx hb dX1_begin_22 (by decide) ?_
  refine pf_X1_51 hC hb hP hD hS dX1_begin_23 (fun H locs σ5 eσ5 hP hS => ?_)
  have h := of_lt h eσ5
  refine lv_aload_n hx hb dX1_begin_26 rfl (lv_at hl 0 rfl) ?_
  refine lv_iconst (v := -1) hx hb dX1_begin_27 (by decide) ?_
  refine pf_X1_81 hC hb hP hD hS dX1_begin_28 (fun H locs σ6 eσ6 hP hS => ?_)
  have h := of_lt h eσ6
  refine lv_aload_n hx hb dX1_begin_31 rfl (lv_at hl 0 rfl) ?_
  refine gf_X1_15 hC hb hP dX1_begin_32 ?_
  obtain ⟨r7, σ8, g9, h⟩ := of_bnd h
  refine x_VV (As := []) (rest := []) hF hl hP hS (c_X0_clear g9) (cw_X1_84 hC rfl rfl ⟨Nat.le_of_ble_eq_true rfl, Nat.le_of_ble_eq_true rfl⟩) lc_2 rfl rfl rfl (Nat.le_of_ble_eq_true rfl) dX1_begin_35 ⟨Nat.zero_le _, Nat.zero_le _⟩ (fun H locs hP hS => ?_)
  exact x_vret hF hP hS h dX1_begin_38

abbrev rm_X1_look : Room := { frames := 0, cells := 0, slots := 0, locals := 0 }
def f_X1_look_61 (s0 : Int32) (σ : Sta) : Option (Int32 × Sta) :=
  some (s0, σ)
set_option maxHeartbeats 4000000 in
set_option maxRecDepth 100000 in
theorem t_X1_look_61 {l : Launch} {D : va_G} {Y : CYs} {E : Nat → Nat} {p : Program} {e : Env} {s : State} {m : MethodId} {args : Array Value} {below : List Frame} {meth : Method} {c : Code} (hF : Fr p s m args meth c RX1 cX1_look 2 (some .int) D Y E LC) {o : Int32 × Sta} : ∀ (s0 : Int32) (σ : Sta) (H : Heap) (locs : List Loc) (ls : Array Slot), f_X1_look_61 s0 σ = some o → va_P D vwCl (wd Y E σ 0 LC) H → va_S (AF E LC.length s.heap.size) s.heap H locs → lv_has ls 2 [] → WI p l e rm_X1_look s m args below meth c LC Y D E o H locs (F0 m 61 ls [.int s0]) := by
  intro s0 σ H locs ls h hP hS hl
  unfold f_X1_look_61 at h
  obtain ⟨hC, hb, hml, hr, hlk, hD, hSW⟩ := id hF
  have hx := hC.1
  exact x_iret hF hP hS h dX1_look_61

def f_X1_look_38 (s0 : Int32) (σ : Sta) : Option (Int32 × Sta) :=
  if s0 = 0 then
    f_X1_look_61 279 σ
  else
    if gI σ 260 < 0 ∨ 1501 ≤ ((gI σ 260).toNatClampNeg) then none else (
    f_X1_look_61 (gA σ 11 ((gI σ 260).toNatClampNeg)) σ)
set_option maxHeartbeats 4000000 in
set_option maxRecDepth 100000 in
theorem t_X1_look_38 {l : Launch} {D : va_G} {Y : CYs} {E : Nat → Nat} {p : Program} {e : Env} {s : State} {m : MethodId} {args : Array Value} {below : List Frame} {meth : Method} {c : Code} (hF : Fr p s m args meth c RX1 cX1_look 2 (some .int) D Y E LC) {o : Int32 × Sta} : ∀ (s0 : Int32) (σ : Sta) (H : Heap) (locs : List Loc) (ls : Array Slot), f_X1_look_38 s0 σ = some o → va_P D vwCl (wd Y E σ 0 LC) H → va_S (AF E LC.length s.heap.size) s.heap H locs → lv_has ls 2 [(0, .ref (E 4))] → WI p l e rm_X1_look s m args below meth c LC Y D E o H locs (F0 m 38 ls [.int s0]) := by
  intro s0 σ H locs ls h hP hS hl
  unfold f_X1_look_38 at h
  obtain ⟨hC, hb, hml, hr, hlk, hD, hSW⟩ := id hF
  have hx := hC.1
  refine lv_istore_n (lv' := [(1, .int s0), (0, .ref (E 4))]) hx hb dX1_look_38 rfl hl (by decide) rfl (fun ls hl => ?_)
  refine lv_iload_n hx hb dX1_look_39 rfl (lv_at hl 0 rfl) ?_
  refine lv_if_eq (tgt := 58) hx hb dX1_look_40 (by decide) (fun c1 => ?_) (fun c1 => ?_)
  · have h := of_t h c1
    refine lv_sipush (v := 279) hx hb dX1_look_58 (by decide) ?_
    exact t_X1_look_61  hF 279 σ _ _ _ h hP hS (lv_sub hl [] rfl)
  · have h := of_f h c1
    refine lv_aload_n hx hb dX1_look_43 rfl (lv_at hl 1 rfl) ?_
    refine gf_X1_9 hC hb hP dX1_look_44 ?_
    refine gf_X1_199 hC hb hP dX1_look_47 ?_
    refine lv_aload_n hx hb dX1_look_50 rfl (lv_at hl 1 rfl) ?_
    refine gf_X1_43 hC hb hP dX1_look_51 ?_
    obtain ⟨g2, h⟩ := of_gd h
    refine x_iald hC hb hP lc_11 g2 dX1_look_54 ?_
    refine lv_goto (tgt := 61) hx hb dX1_look_55 (by decide) ?_
    exact t_X1_look_61  hF (gA σ 11 ((gI σ 260).toNatClampNeg)) σ _ _ _ h hP hS (lv_sub hl [] rfl)

def f_X1_look_37 (σ : Sta) : Option (Int32 × Sta) :=
  f_X1_look_38 0 σ
set_option maxHeartbeats 4000000 in
set_option maxRecDepth 100000 in
theorem t_X1_look_37 {l : Launch} {D : va_G} {Y : CYs} {E : Nat → Nat} {p : Program} {e : Env} {s : State} {m : MethodId} {args : Array Value} {below : List Frame} {meth : Method} {c : Code} (hF : Fr p s m args meth c RX1 cX1_look 2 (some .int) D Y E LC) {o : Int32 × Sta} : ∀ (σ : Sta) (H : Heap) (locs : List Loc) (ls : Array Slot), f_X1_look_37 σ = some o → va_P D vwCl (wd Y E σ 0 LC) H → va_S (AF E LC.length s.heap.size) s.heap H locs → lv_has ls 2 [(0, .ref (E 4))] → WI p l e rm_X1_look s m args below meth c LC Y D E o H locs (F0 m 37 ls []) := by
  intro σ H locs ls h hP hS hl
  unfold f_X1_look_37 at h
  obtain ⟨hC, hb, hml, hr, hlk, hD, hSW⟩ := id hF
  have hx := hC.1
  refine lv_iconst (v := 0) hx hb dX1_look_37 (by decide) ?_
  exact t_X1_look_38  hF 0 σ _ _ _ h hP hS (lv_sub hl [0] rfl)

def f_X1_look (σ : Sta) : Option (Int32 × Sta) :=
  if gI σ 262 = 0 then
    if gI σ 261 ≤ gI σ 260 then
      f_X1_look_37 σ
    else
      if 1501 ≤ gI σ 260 then
        f_X1_look_37 σ
      else
        f_X1_look_38 1 σ
  else
    f_X1_look_37 σ
set_option maxHeartbeats 4000000 in
set_option maxRecDepth 100000 in
theorem c_X1_look {l : Launch} {D : va_G} {Y : CYs} {E : Nat → Nat} {σ : Sta} {o : Int32 × Sta} (h : f_X1_look σ = some o) : MI l yX1_look (Cond.code yX1_look cX1_look 2 (some .int) :: gW) rm_X1_look LC Y D E [.ref (E 4)] σ o := by
  intro sz
  refine Met_of (Qc := fun sz => QI LC Y D E sz o) (by decide) (Nat.le_of_ble_eq_true rfl) (fun p e s m args below meth c hF hP ls hl => ?_) sz
  have hS : va_S (AF E LC.length s.heap.size) s.heap s.heap [] := va_S.rf
  have hl : lv_has ls 2 [(0, .ref (E 4))] := hl
  show WI p l e rm_X1_look s m args below meth c LC Y D E o s.heap [] (F0 m 0 ls [])
  unfold f_X1_look at h
  obtain ⟨hC, hb, hml, hr, hlk, hD, hSW⟩ := id hF
  have hx := hC.1
  refine lv_aload_n hx hb dX1_look_0 rfl (lv_at hl 0 rfl) ?_
  refine gf_X1_51 hC hb hP dX1_look_1 ?_
  refine lv_if_ne (tgt := 37) hx hb dX1_look_4 (by decide) (fun c1 => ?_) (fun c1 => ?_)
  · have h := of_f h c1
    exact t_X1_look_37  hF σ _ _ _ h hP hS (lv_sub hl [0] rfl)
  · have h := of_t h c1
    refine lv_aload_n hx hb dX1_look_7 rfl (lv_at hl 0 rfl) ?_
    refine gf_X1_43 hC hb hP dX1_look_8 ?_
    refine lv_aload_n hx hb dX1_look_11 rfl (lv_at hl 0 rfl) ?_
    refine gf_X1_78 hC hb hP dX1_look_12 ?_
    refine lv_icmp_ge (tgt := 37) hx hb dX1_look_15 (by decide) (fun c2 => ?_) (fun c2 => ?_)
    · have h := of_t h c2
      exact t_X1_look_37  hF σ _ _ _ h hP hS (lv_sub hl [0] rfl)
    · have h := of_f h c2
      refine lv_aload_n hx hb dX1_look_18 rfl (lv_at hl 0 rfl) ?_
      refine gf_X1_43 hC hb hP dX1_look_19 ?_
      refine lv_aload_n hx hb dX1_look_22 rfl (lv_at hl 0 rfl) ?_
      refine gf_X1_9 hC hb hP dX1_look_23 ?_
      refine gf_X1_199 hC hb hP dX1_look_26 ?_
      refine x_alen (v := 1501) hC hb hP lc_11 (Or.inl rfl) (by decide) dX1_look_29 ?_
      refine lv_icmp_ge (tgt := 37) hx hb dX1_look_30 (by decide) (fun c3 => ?_) (fun c3 => ?_)
      · have h := of_t h c3
        exact t_X1_look_37  hF σ _ _ _ h hP hS (lv_sub hl [0] rfl)
      · have h := of_f h c3
        refine lv_iconst (v := 1) hx hb dX1_look_33 (by decide) ?_
        refine lv_goto (tgt := 38) hx hb dX1_look_34 (by decide) ?_
        exact t_X1_look_38  hF 1 σ _ _ _ h hP hS (lv_sub hl [0] rfl)

abbrev rm_X1_fail : Room := { frames := 0, cells := 0, slots := 0, locals := 0 }
def f_X1_fail_41 (σ : Sta) : Option (Unit × Sta) :=
  some ((), σ)
set_option maxHeartbeats 4000000 in
set_option maxRecDepth 100000 in
theorem t_X1_fail_41 {l : Launch} {D : va_G} {Y : CYs} {E : Nat → Nat} {p : Program} {e : Env} {s : State} {m : MethodId} {args : Array Value} {below : List Frame} {meth : Method} {c : Code} (hF : Fr p s m args meth c RX1 cX1_fail 3 none D Y E LC) {o : Unit × Sta} : ∀ (σ : Sta) (H : Heap) (locs : List Loc) (ls : Array Slot), f_X1_fail_41 σ = some o → va_P D vwCl (wd Y E σ 0 LC) H → va_S (AF E LC.length s.heap.size) s.heap H locs → lv_has ls 3 [] → WV p l e rm_X1_fail s m args below meth c LC Y D E o H locs (F0 m 41 ls []) := by
  intro σ H locs ls h hP hS hl
  unfold f_X1_fail_41 at h
  obtain ⟨hC, hb, hml, hr, hlk, hD, hSW⟩ := id hF
  have hx := hC.1
  exact x_vret hF hP hS h dX1_fail_41

def f_X1_fail_38 (s0 : Int32) (σ : Sta) : Option (Unit × Sta) :=
  lt (sI σ 263 s0) (fun σ1 =>
  f_X1_fail_41 σ1)
set_option maxHeartbeats 4000000 in
set_option maxRecDepth 100000 in
theorem t_X1_fail_38 {l : Launch} {D : va_G} {Y : CYs} {E : Nat → Nat} {p : Program} {e : Env} {s : State} {m : MethodId} {args : Array Value} {below : List Frame} {meth : Method} {c : Code} (hF : Fr p s m args meth c RX1 cX1_fail 3 none D Y E LC) {o : Unit × Sta} : ∀ (s0 : Int32) (σ : Sta) (H : Heap) (locs : List Loc) (ls : Array Slot), f_X1_fail_38 s0 σ = some o → va_P D vwCl (wd Y E σ 0 LC) H → va_S (AF E LC.length s.heap.size) s.heap H locs → lv_has ls 3 [] → WV p l e rm_X1_fail s m args below meth c LC Y D E o H locs (F0 m 38 ls [.int s0, .ref (E 4)]) := by
  intro s0 σ H locs ls h hP hS hl
  unfold f_X1_fail_38 at h
  obtain ⟨hC, hb, hml, hr, hlk, hD, hSW⟩ := id hF
  have hx := hC.1
  refine pf_X1_81 hC hb hP hD hS dX1_fail_38 (fun H locs σ1 eσ1 hP hS => ?_)
  have h := of_lt h eσ1
  exact t_X1_fail_41  hF σ1 _ _ _ h hP hS (lv_sub hl [] rfl)

def f_X1_fail (a1 : Int32) (a2 : Int32) (σ : Sta) : Option (Unit × Sta) :=
  if gI σ 262 = 0 then
    lt (sI σ 262 a1) (fun σ2 =>
    if 1501 ≤ a2 then
      f_X1_fail_38 (-1) σ2
    else
      if a2 < 0 ∨ 1501 ≤ (a2.toNatClampNeg) then none else (
      f_X1_fail_38 (gA σ2 12 (a2.toNatClampNeg)) σ2))
  else
    f_X1_fail_41 σ
set_option maxHeartbeats 4000000 in
set_option maxRecDepth 100000 in
theorem c_X1_fail {l : Launch} {D : va_G} {Y : CYs} {E : Nat → Nat} {a1 : Int32} {a2 : Int32} {σ : Sta} {o : Unit × Sta} (h : f_X1_fail a1 a2 σ = some o) : MV l yX1_fail (Cond.code yX1_fail cX1_fail 3 none :: gW) rm_X1_fail LC Y D E [.ref (E 4), .int a1, .int a2] σ o := by
  intro sz
  refine Met_of (Qc := fun sz => QV LC Y D E sz o) (by decide) (Nat.le_of_ble_eq_true rfl) (fun p e s m args below meth c hF hP ls hl => ?_) sz
  have hS : va_S (AF E LC.length s.heap.size) s.heap s.heap [] := va_S.rf
  have hl : lv_has ls 3 [(0, .ref (E 4)), (1, .int a1), (2, .int a2)] := hl
  show WV p l e rm_X1_fail s m args below meth c LC Y D E o s.heap [] (F0 m 0 ls [])
  unfold f_X1_fail at h
  obtain ⟨hC, hb, hml, hr, hlk, hD, hSW⟩ := id hF
  have hx := hC.1
  refine lv_aload_n hx hb dX1_fail_0 rfl (lv_at hl 0 rfl) ?_
  refine gf_X1_51 hC hb hP dX1_fail_1 ?_
  refine lv_if_ne (tgt := 41) hx hb dX1_fail_4 (by decide) (fun c1 => ?_) (fun c1 => ?_)
  · have h := of_f h c1
    exact t_X1_fail_41  hF σ _ _ _ h hP hS (lv_sub hl [] rfl)
  · have h := of_t h c1
    refine lv_aload_n hx hb dX1_fail_7 rfl (lv_at hl 0 rfl) ?_
    refine lv_iload_n hx hb dX1_fail_8 rfl (lv_at hl 1 rfl) ?_
    refine pf_X1_51 hC hb hP hD hS dX1_fail_9 (fun H locs σ2 eσ2 hP hS => ?_)
    have h := of_lt h eσ2
    refine lv_aload_n hx hb dX1_fail_12 rfl (lv_at hl 0 rfl) ?_
    refine lv_iload_n hx hb dX1_fail_13 rfl (lv_at hl 2 rfl) ?_
    refine lv_aload_n hx hb dX1_fail_14 rfl (lv_at hl 0 rfl) ?_
    refine gf_X1_9 hC hb hP dX1_fail_15 ?_
    refine gf_X1_133 hC hb hP dX1_fail_18 ?_
    refine x_alen (v := 1501) hC hb hP lc_12 (Or.inl rfl) (by decide) dX1_fail_21 ?_
    refine lv_icmp_ge (tgt := 37) hx hb dX1_fail_22 (by decide) (fun c3 => ?_) (fun c3 => ?_)
    · have h := of_t h c3
      refine lv_iconst (v := -1) hx hb dX1_fail_37 (by decide) ?_
      exact t_X1_fail_38  hF (-1) σ2 _ _ _ h hP hS (lv_sub hl [] rfl)
    · have h := of_f h c3
      refine lv_aload_n hx hb dX1_fail_25 rfl (lv_at hl 0 rfl) ?_
      refine gf_X1_9 hC hb hP dX1_fail_26 ?_
      refine gf_X1_133 hC hb hP dX1_fail_29 ?_
      refine lv_iload_n hx hb dX1_fail_32 rfl (lv_at hl 2 rfl) ?_
      obtain ⟨g4, h⟩ := of_gd h
      refine x_iald hC hb hP lc_12 g4 dX1_fail_33 ?_
      refine lv_goto (tgt := 38) hx hb dX1_fail_34 (by decide) ?_
      exact t_X1_fail_38  hF (gA σ2 12 (a2.toNatClampNeg)) σ2 _ _ _ h hP hS (lv_sub hl [] rfl)

abbrev rm_X1_expect : Room := { frames := 1, cells := 0, slots := 0, locals := 22 }
def f_X1_expect_32 (v2 : Int32) (σ : Sta) : Option (Int32 × Sta) :=
  some (v2, σ)
set_option maxHeartbeats 4000000 in
set_option maxRecDepth 100000 in
theorem t_X1_expect_32 {l : Launch} {D : va_G} {Y : CYs} {E : Nat → Nat} {p : Program} {e : Env} {s : State} {m : MethodId} {args : Array Value} {below : List Frame} {meth : Method} {c : Code} (hF : Fr p s m args meth c RX1 cX1_expect 3 (some .int) D Y E LC) {o : Int32 × Sta} : ∀ (v2 : Int32) (σ : Sta) (H : Heap) (locs : List Loc) (ls : Array Slot), f_X1_expect_32 v2 σ = some o → va_P D vwCl (wd Y E σ 0 LC) H → va_S (AF E LC.length s.heap.size) s.heap H locs → lv_has ls 3 [(2, .int v2)] → WI p l e rm_X1_expect s m args below meth c LC Y D E o H locs (F0 m 32 ls []) := by
  intro v2 σ H locs ls h hP hS hl
  unfold f_X1_expect_32 at h
  obtain ⟨hC, hb, hml, hr, hlk, hD, hSW⟩ := id hF
  have hx := hC.1
  refine lv_iload_n hx hb dX1_expect_32 rfl (lv_at hl 0 rfl) ?_
  exact x_iret hF hP hS h dX1_expect_33

def f_X1_expect (a1 : Int32) (σ : Sta) : Option (Int32 × Sta) :=
  lt (gI σ 260) (fun x1 =>
  bnd (f_X1_look σ) (fun r2 σ3 =>
  if r2 = a1 then
    lt (sI σ3 260 ((gI σ3 260) + 1)) (fun σ9 =>
    f_X1_expect_32 x1 σ9)
  else
    bnd (f_X1_fail 1 x1 σ3) (fun _ σ7 =>
    f_X1_expect_32 x1 σ7)))
set_option maxHeartbeats 4000000 in
set_option maxRecDepth 100000 in
theorem c_X1_expect {l : Launch} {D : va_G} {Y : CYs} {E : Nat → Nat} {a1 : Int32} {σ : Sta} {o : Int32 × Sta} (h : f_X1_expect a1 σ = some o) : MI l yX1_expect (Cond.code yX1_expect cX1_expect 3 (some .int) :: gW) rm_X1_expect LC Y D E [.ref (E 4), .int a1] σ o := by
  intro sz
  refine Met_of (Qc := fun sz => QI LC Y D E sz o) (by decide) (Nat.le_of_ble_eq_true rfl) (fun p e s m args below meth c hF hP ls hl => ?_) sz
  have hS : va_S (AF E LC.length s.heap.size) s.heap s.heap [] := va_S.rf
  have hl : lv_has ls 3 [(0, .ref (E 4)), (1, .int a1)] := hl
  show WI p l e rm_X1_expect s m args below meth c LC Y D E o s.heap [] (F0 m 0 ls [])
  unfold f_X1_expect at h
  obtain ⟨hC, hb, hml, hr, hlk, hD, hSW⟩ := id hF
  have hx := hC.1
  refine lv_aload_n hx hb dX1_expect_0 rfl (lv_at hl 0 rfl) ?_
  refine gf_X1_43 hC hb hP dX1_expect_1 ?_
  refine lv_topi (fun x1 ex1 => ?_)
  have h := of_lt h ex1
  refine lv_istore_n (lv' := [(2, .int x1), (0, .ref (E 4)), (1, .int a1)]) hx hb dX1_expect_4 rfl hl (by decide) rfl (fun ls hl => ?_)
  refine lv_aload_n hx hb dX1_expect_5 rfl (lv_at hl 1 rfl) ?_
  obtain ⟨r2, σ3, g4, h⟩ := of_bnd h
  refine x_VI (As := []) (rest := []) hF hl hP hS (c_X1_look g4) (cw_X1_27 hC rfl rfl ⟨Nat.le_of_ble_eq_true rfl, Nat.le_of_ble_eq_true rfl⟩) lc_4 rfl rfl rfl (Nat.le_of_ble_eq_true rfl) dX1_expect_6 ⟨Nat.zero_le _, Nat.zero_le _⟩ (fun H locs hP hS => ?_)
  refine lv_iload_n hx hb dX1_expect_9 rfl (lv_at hl 2 rfl) ?_
  refine lv_icmp_ne (tgt := 26) hx hb dX1_expect_10 (by decide) (fun c5 => ?_) (fun c5 => ?_)
  · have h := of_f h c5
    refine lv_aload_n hx hb dX1_expect_26 rfl (lv_at hl 1 rfl) ?_
    refine lv_iconst (v := 1) hx hb dX1_expect_27 (by decide) ?_
    refine lv_iload_n hx hb dX1_expect_28 rfl (lv_at hl 0 rfl) ?_
    obtain ⟨r6, σ7, g8, h⟩ := of_bnd h
    refine x_VV (As := [.int 1, .int x1]) (rest := []) hF hl hP hS (c_X1_fail g8) (cw_X1_47 hC rfl rfl ⟨Nat.le_of_ble_eq_true rfl, Nat.le_of_ble_eq_true rfl⟩) lc_4 rfl rfl rfl (Nat.le_of_ble_eq_true rfl) dX1_expect_29 ⟨Nat.zero_le _, Nat.zero_le _⟩ (fun H locs hP hS => ?_)
    exact t_X1_expect_32  hF x1 σ7 _ _ _ h hP hS (lv_sub hl [0] rfl)
  · have h := of_t h c5
    refine lv_aload_n hx hb dX1_expect_13 rfl (lv_at hl 1 rfl) ?_
    refine lv_dup hx hb dX1_expect_14 rfl ?_
    refine gf_X1_43 hC hb hP dX1_expect_15 ?_
    refine lv_iconst (v := 1) hx hb dX1_expect_18 (by decide) ?_
    refine lv_iadd hx hb dX1_expect_19 ?_
    refine pf_X1_43 hC hb hP hD hS dX1_expect_20 (fun H locs σ9 eσ9 hP hS => ?_)
    have h := of_lt h eσ9
    refine lv_goto (tgt := 32) hx hb dX1_expect_23 (by decide) ?_
    exact t_X1_expect_32  hF x1 σ9 _ _ _ h hP hS (lv_sub hl [0] rfl)

abbrev rm_X1_accept : Room := { frames := 1, cells := 0, slots := 0, locals := 21 }
def f_X1_accept (a1 : Int32) (σ : Sta) : Option (Int32 × Sta) :=
  bnd (f_X1_look σ) (fun r1 σ2 =>
  if r1 = a1 then
    lt (sI σ2 260 ((gI σ2 260) + 1)) (fun σ5 =>
    some (1, σ5))
  else
    some (0, σ2))
set_option maxHeartbeats 4000000 in
set_option maxRecDepth 100000 in
theorem c_X1_accept {l : Launch} {D : va_G} {Y : CYs} {E : Nat → Nat} {a1 : Int32} {σ : Sta} {o : Int32 × Sta} (h : f_X1_accept a1 σ = some o) : MI l yX1_accept (Cond.code yX1_accept cX1_accept 2 (some .boolean) :: gW) rm_X1_accept LC Y D E [.ref (E 4), .int a1] σ o := by
  intro sz
  refine Met_of (Qc := fun sz => QI LC Y D E sz o) (by decide) (Nat.le_of_ble_eq_true rfl) (fun p e s m args below meth c hF hP ls hl => ?_) sz
  have hS : va_S (AF E LC.length s.heap.size) s.heap s.heap [] := va_S.rf
  have hl : lv_has ls 2 [(0, .ref (E 4)), (1, .int a1)] := hl
  show WI p l e rm_X1_accept s m args below meth c LC Y D E o s.heap [] (F0 m 0 ls [])
  unfold f_X1_accept at h
  obtain ⟨hC, hb, hml, hr, hlk, hD, hSW⟩ := id hF
  have hx := hC.1
  refine lv_aload_n hx hb dX1_accept_0 rfl (lv_at hl 0 rfl) ?_
  obtain ⟨r1, σ2, g3, h⟩ := of_bnd h
  refine x_VI (As := []) (rest := []) hF hl hP hS (c_X1_look g3) (cw_X1_27 hC rfl rfl ⟨Nat.le_of_ble_eq_true rfl, Nat.le_of_ble_eq_true rfl⟩) lc_4 rfl rfl rfl (Nat.le_of_ble_eq_true rfl) dX1_accept_1 ⟨Nat.zero_le _, Nat.zero_le _⟩ (fun H locs hP hS => ?_)
  refine lv_iload_n hx hb dX1_accept_4 rfl (lv_at hl 1 rfl) ?_
  refine lv_icmp_eq (tgt := 10) hx hb dX1_accept_5 (by decide) (fun c4 => ?_) (fun c4 => ?_)
  · have h := of_t h c4
    refine lv_aload_n hx hb dX1_accept_10 rfl (lv_at hl 0 rfl) ?_
    refine lv_dup hx hb dX1_accept_11 rfl ?_
    refine gf_X1_43 hC hb hP dX1_accept_12 ?_
    refine lv_iconst (v := 1) hx hb dX1_accept_15 (by decide) ?_
    refine lv_iadd hx hb dX1_accept_16 ?_
    refine pf_X1_43 hC hb hP hD hS dX1_accept_17 (fun H locs σ5 eσ5 hP hS => ?_)
    have h := of_lt h eσ5
    refine lv_iconst (v := 1) hx hb dX1_accept_20 (by decide) ?_
    exact x_zret hF hP hS rfl h dX1_accept_21
  · have h := of_f h c4
    refine lv_iconst (v := 0) hx hb dX1_accept_8 (by decide) ?_
    exact x_zret hF hP hS rfl h dX1_accept_9

abbrev rm_X1_readWhole : Room := { frames := 2, cells := 0, slots := 0, locals := 44 }
def f_X1_readWhole (σ : Sta) : Option (Int32 × Sta) :=
  bnd (f_X1_accept 45 σ) (fun r1 σ2 =>
  bnd (f_X1_expect 274 σ2) (fun r4 σ5 =>
  some (r4, σ5)))
set_option maxHeartbeats 4000000 in
set_option maxRecDepth 100000 in
theorem c_X1_readWhole {l : Launch} {D : va_G} {Y : CYs} {E : Nat → Nat} {σ : Sta} {o : Int32 × Sta} (h : f_X1_readWhole σ = some o) : MI l yX1_readWhole (Cond.code yX1_readWhole cX1_readWhole 1 (some .int) :: gW) rm_X1_readWhole LC Y D E [.ref (E 4)] σ o := by
  intro sz
  refine Met_of (Qc := fun sz => QI LC Y D E sz o) (by decide) (Nat.le_of_ble_eq_true rfl) (fun p e s m args below meth c hF hP ls hl => ?_) sz
  have hS : va_S (AF E LC.length s.heap.size) s.heap s.heap [] := va_S.rf
  have hl : lv_has ls 1 [(0, .ref (E 4))] := hl
  show WI p l e rm_X1_readWhole s m args below meth c LC Y D E o s.heap [] (F0 m 0 ls [])
  unfold f_X1_readWhole at h
  obtain ⟨hC, hb, hml, hr, hlk, hD, hSW⟩ := id hF
  have hx := hC.1
  refine lv_aload_n hx hb dX1_readWhole_0 rfl (lv_at hl 0 rfl) ?_
  refine lv_bipush (v := 45) hx hb dX1_readWhole_1 (by decide) ?_
  obtain ⟨r1, σ2, g3, h⟩ := of_bnd h
  refine x_VI (As := [.int 45]) (rest := []) hF hl hP hS (c_X1_accept g3) (cw_X1_118 hC rfl rfl ⟨Nat.le_of_ble_eq_true rfl, Nat.le_of_ble_eq_true rfl⟩) lc_4 rfl rfl rfl (Nat.le_of_ble_eq_true rfl) dX1_readWhole_3 ⟨Nat.zero_le _, Nat.zero_le _⟩ (fun H locs hP hS => ?_)
  refine lv_pop hx hb dX1_readWhole_6 rfl ?_
  refine lv_aload_n hx hb dX1_readWhole_7 rfl (lv_at hl 0 rfl) ?_
  refine lv_sipush (v := 274) hx hb dX1_readWhole_8 (by decide) ?_
  obtain ⟨r4, σ5, g6, h⟩ := of_bnd h
  refine x_VI (As := [.int 274]) (rest := []) hF hl hP hS (c_X1_expect g6) (cw_X1_89 hC rfl rfl ⟨Nat.le_of_ble_eq_true rfl, Nat.le_of_ble_eq_true rfl⟩) lc_4 rfl rfl rfl (Nat.le_of_ble_eq_true rfl) dX1_readWhole_11 ⟨Nat.zero_le _, Nat.zero_le _⟩ (fun H locs hP hS => ?_)
  exact x_iret hF hP hS h dX1_readWhole_14

abbrev rm_X1_demand : Room := { frames := 1, cells := 0, slots := 0, locals := 22 }
def f_X1_demand_17 (σ : Sta) : Option (Unit × Sta) :=
  some ((), σ)
set_option maxHeartbeats 4000000 in
set_option maxRecDepth 100000 in
theorem t_X1_demand_17 {l : Launch} {D : va_G} {Y : CYs} {E : Nat → Nat} {p : Program} {e : Env} {s : State} {m : MethodId} {args : Array Value} {below : List Frame} {meth : Method} {c : Code} (hF : Fr p s m args meth c RX1 cX1_demand 4 none D Y E LC) {o : Unit × Sta} : ∀ (σ : Sta) (H : Heap) (locs : List Loc) (ls : Array Slot), f_X1_demand_17 σ = some o → va_P D vwCl (wd Y E σ 0 LC) H → va_S (AF E LC.length s.heap.size) s.heap H locs → lv_has ls 4 [] → WV p l e rm_X1_demand s m args below meth c LC Y D E o H locs (F0 m 17 ls []) := by
  intro σ H locs ls h hP hS hl
  unfold f_X1_demand_17 at h
  obtain ⟨hC, hb, hml, hr, hlk, hD, hSW⟩ := id hF
  have hx := hC.1
  exact x_vret hF hP hS h dX1_demand_17

def f_X1_demand (a1 : Int32) (a2 : Int32) (a3 : Int32) (σ : Sta) : Option (Unit × Sta) :=
  if gI σ 259 = 0 then
    f_X1_demand_17 σ
  else
    if a1 = 0 then
      bnd (f_X1_fail a2 a3 σ) (fun _ σ4 =>
      f_X1_demand_17 σ4)
    else
      f_X1_demand_17 σ
set_option maxHeartbeats 4000000 in
set_option maxRecDepth 100000 in
theorem c_X1_demand {l : Launch} {D : va_G} {Y : CYs} {E : Nat → Nat} {a1 : Int32} {a2 : Int32} {a3 : Int32} {σ : Sta} {o : Unit × Sta} (h : f_X1_demand a1 a2 a3 σ = some o) : MV l yX1_demand (Cond.code yX1_demand cX1_demand 4 none :: gW) rm_X1_demand LC Y D E [.ref (E 4), .int a1, .int a2, .int a3] σ o := by
  intro sz
  refine Met_of (Qc := fun sz => QV LC Y D E sz o) (by decide) (Nat.le_of_ble_eq_true rfl) (fun p e s m args below meth c hF hP ls hl => ?_) sz
  have hS : va_S (AF E LC.length s.heap.size) s.heap s.heap [] := va_S.rf
  have hl : lv_has ls 4 [(0, .ref (E 4)), (1, .int a1), (2, .int a2), (3, .int a3)] := hl
  show WV p l e rm_X1_demand s m args below meth c LC Y D E o s.heap [] (F0 m 0 ls [])
  unfold f_X1_demand at h
  obtain ⟨hC, hb, hml, hr, hlk, hD, hSW⟩ := id hF
  have hx := hC.1
  refine lv_aload_n hx hb dX1_demand_0 rfl (lv_at hl 0 rfl) ?_
  refine gf_X1_69 hC hb hP dX1_demand_1 ?_
  refine lv_if_eq (tgt := 17) hx hb dX1_demand_4 (by decide) (fun c1 => ?_) (fun c1 => ?_)
  · have h := of_t h c1
    exact t_X1_demand_17  hF σ _ _ _ h hP hS (lv_sub hl [] rfl)
  · have h := of_f h c1
    refine lv_iload_n hx hb dX1_demand_7 rfl (lv_at hl 1 rfl) ?_
    refine lv_if_ne (tgt := 17) hx hb dX1_demand_8 (by decide) (fun c2 => ?_) (fun c2 => ?_)
    · have h := of_f h c2
      exact t_X1_demand_17  hF σ _ _ _ h hP hS (lv_sub hl [] rfl)
    · have h := of_t h c2
      refine lv_aload_n hx hb dX1_demand_11 rfl (lv_at hl 0 rfl) ?_
      refine lv_iload_n hx hb dX1_demand_12 rfl (lv_at hl 2 rfl) ?_
      refine lv_iload_n hx hb dX1_demand_13 rfl (lv_at hl 3 rfl) ?_
      obtain ⟨r3, σ4, g5, h⟩ := of_bnd h
      refine x_VV (As := [.int a2, .int a3]) (rest := []) hF hl hP hS (c_X1_fail g5) (cw_X1_47 hC rfl rfl ⟨Nat.le_of_ble_eq_true rfl, Nat.le_of_ble_eq_true rfl⟩) lc_4 rfl rfl rfl (Nat.le_of_ble_eq_true rfl) dX1_demand_14 ⟨Nat.zero_le _, Nat.zero_le _⟩ (fun H locs hP hS => ?_)
      exact t_X1_demand_17  hF σ4 _ _ _ h hP hS (lv_sub hl [] rfl)

abbrev rm_X1_demandNewName : Room := { frames := 3, cells := 0, slots := 0, locals := 68 }
def f_X1_demandNewName_24 (v1 : Int32) (s0 : Int32) (σ : Sta) : Option (Unit × Sta) :=
  bnd (f_X1_demand s0 3 v1 σ) (fun _ σ2 =>
  some ((), σ2))
set_option maxHeartbeats 4000000 in
set_option maxRecDepth 100000 in
theorem t_X1_demandNewName_24 {l : Launch} {D : va_G} {Y : CYs} {E : Nat → Nat} {p : Program} {e : Env} {s : State} {m : MethodId} {args : Array Value} {below : List Frame} {meth : Method} {c : Code} (hF : Fr p s m args meth c RX1 cX1_demandNewName 2 none D Y E LC) {o : Unit × Sta} : ∀ (v1 : Int32) (s0 : Int32) (σ : Sta) (H : Heap) (locs : List Loc) (ls : Array Slot), f_X1_demandNewName_24 v1 s0 σ = some o → va_P D vwCl (wd Y E σ 0 LC) H → va_S (AF E LC.length s.heap.size) s.heap H locs → lv_has ls 2 [(1, .int v1)] → WV p l e rm_X1_demandNewName s m args below meth c LC Y D E o H locs (F0 m 24 ls [.int s0, .ref (E 4)]) := by
  intro v1 s0 σ H locs ls h hP hS hl
  unfold f_X1_demandNewName_24 at h
  obtain ⟨hC, hb, hml, hr, hlk, hD, hSW⟩ := id hF
  have hx := hC.1
  refine lv_iconst (v := 3) hx hb dX1_demandNewName_24 (by decide) ?_
  refine lv_iload_n hx hb dX1_demandNewName_25 rfl (lv_at hl 0 rfl) ?_
  obtain ⟨r1, σ2, g3, h⟩ := of_bnd h
  refine x_VV (As := [.int s0, .int 3, .int v1]) (rest := []) hF hl hP hS (c_X1_demand g3) (cw_X1_62 hC rfl rfl ⟨Nat.le_of_ble_eq_true rfl, Nat.le_of_ble_eq_true rfl⟩) lc_4 rfl rfl rfl (Nat.le_of_ble_eq_true rfl) dX1_demandNewName_26 ⟨Nat.zero_le _, Nat.zero_le _⟩ (fun H locs hP hS => ?_)
  exact x_vret hF hP hS h dX1_demandNewName_29

def f_X1_demandNewName (a1 : Int32) (σ : Sta) : Option (Unit × Sta) :=
  bnd (f_X7_contentOf a1 σ) (fun r1 σ2 =>
  bnd (f_X4_isNameTaken r1 σ2) (fun r4 σ5 =>
  if r4 = 0 then
    f_X1_demandNewName_24 a1 1 σ5
  else
    f_X1_demandNewName_24 a1 0 σ5))
set_option maxHeartbeats 4000000 in
set_option maxRecDepth 100000 in
theorem c_X1_demandNewName {l : Launch} {D : va_G} {Y : CYs} {E : Nat → Nat} {a1 : Int32} {σ : Sta} {o : Unit × Sta} (h : f_X1_demandNewName a1 σ = some o) : MV l yX1_demandNewName (Cond.code yX1_demandNewName cX1_demandNewName 2 none :: gW) rm_X1_demandNewName LC Y D E [.ref (E 4), .int a1] σ o := by
  intro sz
  refine Met_of (Qc := fun sz => QV LC Y D E sz o) (by decide) (Nat.le_of_ble_eq_true rfl) (fun p e s m args below meth c hF hP ls hl => ?_) sz
  have hS : va_S (AF E LC.length s.heap.size) s.heap s.heap [] := va_S.rf
  have hl : lv_has ls 2 [(0, .ref (E 4)), (1, .int a1)] := hl
  show WV p l e rm_X1_demandNewName s m args below meth c LC Y D E o s.heap [] (F0 m 0 ls [])
  unfold f_X1_demandNewName at h
  obtain ⟨hC, hb, hml, hr, hlk, hD, hSW⟩ := id hF
  have hx := hC.1
  refine lv_aload_n hx hb dX1_demandNewName_0 rfl (lv_at hl 0 rfl) ?_
  refine lv_aload_n hx hb dX1_demandNewName_1 rfl (lv_at hl 0 rfl) ?_
  refine gf_X1_19 hC hb hP dX1_demandNewName_2 ?_
  refine lv_aload_n hx hb dX1_demandNewName_5 rfl (lv_at hl 0 rfl) ?_
  refine gf_X1_9 hC hb hP dX1_demandNewName_6 ?_
  refine lv_iload_n hx hb dX1_demandNewName_9 rfl (lv_at hl 1 rfl) ?_
  obtain ⟨r1, σ2, g3, h⟩ := of_bnd h
  refine x_VL (As := [.int a1]) (rest := [.ref (E 3), .ref (E 4)]) hF hl hP hS (c_X7_contentOf g3) (cw_X1_107 hC rfl rfl ⟨Nat.le_of_ble_eq_true rfl, Nat.le_of_ble_eq_true rfl⟩) lc_1 rfl rfl rfl (Nat.le_of_ble_eq_true rfl) dX1_demandNewName_10 ⟨Nat.zero_le _, Nat.zero_le _⟩ (fun H locs hP hS => ?_)
  obtain ⟨r4, σ5, g6, h⟩ := of_bnd h
  refine x_VI (As := [.long r1]) (rest := [.ref (E 4)]) hF hl hP hS (c_X4_isNameTaken g6) (cw_X1_202 hC rfl rfl ⟨Nat.le_of_ble_eq_true rfl, Nat.le_of_ble_eq_true rfl⟩) lc_3 rfl rfl rfl (Nat.le_of_ble_eq_true rfl) dX1_demandNewName_13 ⟨Nat.zero_le _, Nat.zero_le _⟩ (fun H locs hP hS => ?_)
  refine lv_if_ne (tgt := 23) hx hb dX1_demandNewName_16 (by decide) (fun c7 => ?_) (fun c7 => ?_)
  · have h := of_f h c7
    refine lv_iconst (v := 0) hx hb dX1_demandNewName_23 (by decide) ?_
    exact t_X1_demandNewName_24  hF a1 0 σ5 _ _ _ h hP hS (lv_sub hl [1] rfl)
  · have h := of_t h c7
    refine lv_iconst (v := 1) hx hb dX1_demandNewName_19 (by decide) ?_
    refine lv_goto (tgt := 24) hx hb dX1_demandNewName_20 (by decide) ?_
    exact t_X1_demandNewName_24  hF a1 1 σ5 _ _ _ h hP hS (lv_sub hl [1] rfl)

abbrev rm_X1_wholeAt : Room := { frames := 1, cells := 0, slots := 0, locals := 21 }
def f_X1_wholeAt_31 (s0 : Int32) (σ : Sta) : Option (Int32 × Sta) :=
  some (s0, σ)
set_option maxHeartbeats 4000000 in
set_option maxRecDepth 100000 in
theorem t_X1_wholeAt_31 {l : Launch} {D : va_G} {Y : CYs} {E : Nat → Nat} {p : Program} {e : Env} {s : State} {m : MethodId} {args : Array Value} {below : List Frame} {meth : Method} {c : Code} (hF : Fr p s m args meth c RX1 cX1_wholeAt 3 (some .int) D Y E LC) {o : Int32 × Sta} : ∀ (s0 : Int32) (σ : Sta) (H : Heap) (locs : List Loc) (ls : Array Slot), f_X1_wholeAt_31 s0 σ = some o → va_P D vwCl (wd Y E σ 0 LC) H → va_S (AF E LC.length s.heap.size) s.heap H locs → lv_has ls 3 [] → WI p l e rm_X1_wholeAt s m args below meth c LC Y D E o H locs (F0 m 31 ls [.int s0]) := by
  intro s0 σ H locs ls h hP hS hl
  unfold f_X1_wholeAt_31 at h
  obtain ⟨hC, hb, hml, hr, hlk, hD, hSW⟩ := id hF
  have hx := hC.1
  exact x_iret hF hP hS h dX1_wholeAt_31

def f_X1_wholeAt (a1 : Int32) (σ : Sta) : Option (Int32 × Sta) :=
  bnd (f_X7_contentOf a1 σ) (fun r1 σ2 =>
  lt (r1.toInt32) (fun x4 =>
  bnd (f_X7_kindOf (a1 - 1) σ2) (fun r5 σ6 =>
  if r5 = 45 then
    f_X1_wholeAt_31 (-x4) σ6
  else
    f_X1_wholeAt_31 x4 σ6)))
set_option maxHeartbeats 4000000 in
set_option maxRecDepth 100000 in
theorem c_X1_wholeAt {l : Launch} {D : va_G} {Y : CYs} {E : Nat → Nat} {a1 : Int32} {σ : Sta} {o : Int32 × Sta} (h : f_X1_wholeAt a1 σ = some o) : MI l yX1_wholeAt (Cond.code yX1_wholeAt cX1_wholeAt 3 (some .int) :: gW) rm_X1_wholeAt LC Y D E [.ref (E 4), .int a1] σ o := by
  intro sz
  refine Met_of (Qc := fun sz => QI LC Y D E sz o) (by decide) (Nat.le_of_ble_eq_true rfl) (fun p e s m args below meth c hF hP ls hl => ?_) sz
  have hS : va_S (AF E LC.length s.heap.size) s.heap s.heap [] := va_S.rf
  have hl : lv_has ls 3 [(0, .ref (E 4)), (1, .int a1)] := hl
  show WI p l e rm_X1_wholeAt s m args below meth c LC Y D E o s.heap [] (F0 m 0 ls [])
  unfold f_X1_wholeAt at h
  obtain ⟨hC, hb, hml, hr, hlk, hD, hSW⟩ := id hF
  have hx := hC.1
  refine lv_aload_n hx hb dX1_wholeAt_0 rfl (lv_at hl 0 rfl) ?_
  refine gf_X1_9 hC hb hP dX1_wholeAt_1 ?_
  refine lv_iload_n hx hb dX1_wholeAt_4 rfl (lv_at hl 1 rfl) ?_
  obtain ⟨r1, σ2, g3, h⟩ := of_bnd h
  refine x_VL (As := [.int a1]) (rest := []) hF hl hP hS (c_X7_contentOf g3) (cw_X1_107 hC rfl rfl ⟨Nat.le_of_ble_eq_true rfl, Nat.le_of_ble_eq_true rfl⟩) lc_1 rfl rfl rfl (Nat.le_of_ble_eq_true rfl) dX1_wholeAt_5 ⟨Nat.zero_le _, Nat.zero_le _⟩ (fun H locs hP hS => ?_)
  refine lv_l2i (v := r1.toInt32) hx hb dX1_wholeAt_8 rfl ?_
  refine lv_topi (fun x4 ex4 => ?_)
  have h := of_lt h ex4
  refine lv_istore_n (lv' := [(2, .int x4), (0, .ref (E 4)), (1, .int a1)]) hx hb dX1_wholeAt_9 rfl hl (by decide) rfl (fun ls hl => ?_)
  refine lv_aload_n hx hb dX1_wholeAt_10 rfl (lv_at hl 1 rfl) ?_
  refine gf_X1_9 hC hb hP dX1_wholeAt_11 ?_
  refine lv_iload_n hx hb dX1_wholeAt_14 rfl (lv_at hl 2 rfl) ?_
  refine lv_iconst (v := 1) hx hb dX1_wholeAt_15 (by decide) ?_
  refine lv_isub hx hb dX1_wholeAt_16 ?_
  obtain ⟨r5, σ6, g7, h⟩ := of_bnd h
  refine x_VI (As := [.int (a1 - 1)]) (rest := []) hF hl hP hS (c_X7_kindOf g7) (cw_X1_167 hC rfl rfl ⟨Nat.le_of_ble_eq_true rfl, Nat.le_of_ble_eq_true rfl⟩) lc_1 rfl rfl rfl (Nat.le_of_ble_eq_true rfl) dX1_wholeAt_17 ⟨Nat.zero_le _, Nat.zero_le _⟩ (fun H locs hP hS => ?_)
  refine lv_bipush (v := 45) hx hb dX1_wholeAt_20 (by decide) ?_
  refine lv_icmp_ne (tgt := 30) hx hb dX1_wholeAt_22 (by decide) (fun c8 => ?_) (fun c8 => ?_)
  · have h := of_f h c8
    refine lv_iload_n hx hb dX1_wholeAt_30 rfl (lv_at hl 0 rfl) ?_
    exact t_X1_wholeAt_31  hF x4 σ6 _ _ _ h hP hS (lv_sub hl [] rfl)
  · have h := of_t h c8
    refine lv_iload_n hx hb dX1_wholeAt_25 rfl (lv_at hl 0 rfl) ?_
    refine lv_ineg hx hb dX1_wholeAt_26 ?_
    refine lv_goto (tgt := 31) hx hb dX1_wholeAt_27 (by decide) ?_
    exact t_X1_wholeAt_31  hF (-x4) σ6 _ _ _ h hP hS (lv_sub hl [] rfl)

abbrev rm_X1_isMeaningRight : Room := { frames := 0, cells := 0, slots := 0, locals := 0 }
def f_X1_isMeaningRight_19 (s0 : Int32) (σ : Sta) : Option (Int32 × Sta) :=
  if ¬ (s0 = 0 ∨ s0 = 1) then none else (
  some (s0, σ))
set_option maxHeartbeats 4000000 in
set_option maxRecDepth 100000 in
theorem t_X1_isMeaningRight_19 {l : Launch} {D : va_G} {Y : CYs} {E : Nat → Nat} {p : Program} {e : Env} {s : State} {m : MethodId} {args : Array Value} {below : List Frame} {meth : Method} {c : Code} (hF : Fr p s m args meth c RX1 cX1_isMeaningRight 1 (some .boolean) D Y E LC) {o : Int32 × Sta} : ∀ (s0 : Int32) (σ : Sta) (H : Heap) (locs : List Loc) (ls : Array Slot), f_X1_isMeaningRight_19 s0 σ = some o → va_P D vwCl (wd Y E σ 0 LC) H → va_S (AF E LC.length s.heap.size) s.heap H locs → lv_has ls 1 [] → WI p l e rm_X1_isMeaningRight s m args below meth c LC Y D E o H locs (F0 m 19 ls [.int s0]) := by
  intro s0 σ H locs ls h hP hS hl
  unfold f_X1_isMeaningRight_19 at h
  obtain ⟨hC, hb, hml, hr, hlk, hD, hSW⟩ := id hF
  have hx := hC.1
  obtain ⟨g1, h⟩ := of_gd h
  exact x_zret hF hP hS (zb g1) h dX1_isMeaningRight_19

def f_X1_isMeaningRight_18 (σ : Sta) : Option (Int32 × Sta) :=
  f_X1_isMeaningRight_19 0 σ
set_option maxHeartbeats 4000000 in
set_option maxRecDepth 100000 in
theorem t_X1_isMeaningRight_18 {l : Launch} {D : va_G} {Y : CYs} {E : Nat → Nat} {p : Program} {e : Env} {s : State} {m : MethodId} {args : Array Value} {below : List Frame} {meth : Method} {c : Code} (hF : Fr p s m args meth c RX1 cX1_isMeaningRight 1 (some .boolean) D Y E LC) {o : Int32 × Sta} : ∀ (σ : Sta) (H : Heap) (locs : List Loc) (ls : Array Slot), f_X1_isMeaningRight_18 σ = some o → va_P D vwCl (wd Y E σ 0 LC) H → va_S (AF E LC.length s.heap.size) s.heap H locs → lv_has ls 1 [] → WI p l e rm_X1_isMeaningRight s m args below meth c LC Y D E o H locs (F0 m 18 ls []) := by
  intro σ H locs ls h hP hS hl
  unfold f_X1_isMeaningRight_18 at h
  obtain ⟨hC, hb, hml, hr, hlk, hD, hSW⟩ := id hF
  have hx := hC.1
  refine lv_iconst (v := 0) hx hb dX1_isMeaningRight_18 (by decide) ?_
  exact t_X1_isMeaningRight_19  hF 0 σ _ _ _ h hP hS (lv_sub hl [] rfl)

def f_X1_isMeaningRight (σ : Sta) : Option (Int32 × Sta) :=
  if gI σ 259 = 0 then
    f_X1_isMeaningRight_18 σ
  else
    if gI σ 262 = 0 then
      f_X1_isMeaningRight_19 1 σ
    else
      f_X1_isMeaningRight_18 σ
set_option maxHeartbeats 4000000 in
set_option maxRecDepth 100000 in
theorem c_X1_isMeaningRight {l : Launch} {D : va_G} {Y : CYs} {E : Nat → Nat} {σ : Sta} {o : Int32 × Sta} (h : f_X1_isMeaningRight σ = some o) : MI l yX1_isMeaningRight (Cond.code yX1_isMeaningRight cX1_isMeaningRight 1 (some .boolean) :: gW) rm_X1_isMeaningRight LC Y D E [.ref (E 4)] σ o := by
  intro sz
  refine Met_of (Qc := fun sz => QI LC Y D E sz o) (by decide) (Nat.le_of_ble_eq_true rfl) (fun p e s m args below meth c hF hP ls hl => ?_) sz
  have hS : va_S (AF E LC.length s.heap.size) s.heap s.heap [] := va_S.rf
  have hl : lv_has ls 1 [(0, .ref (E 4))] := hl
  show WI p l e rm_X1_isMeaningRight s m args below meth c LC Y D E o s.heap [] (F0 m 0 ls [])
  unfold f_X1_isMeaningRight at h
  obtain ⟨hC, hb, hml, hr, hlk, hD, hSW⟩ := id hF
  have hx := hC.1
  refine lv_aload_n hx hb dX1_isMeaningRight_0 rfl (lv_at hl 0 rfl) ?_
  refine gf_X1_69 hC hb hP dX1_isMeaningRight_1 ?_
  refine lv_if_eq (tgt := 18) hx hb dX1_isMeaningRight_4 (by decide) (fun c1 => ?_) (fun c1 => ?_)
  · have h := of_t h c1
    exact t_X1_isMeaningRight_18  hF σ _ _ _ h hP hS (lv_sub hl [] rfl)
  · have h := of_f h c1
    refine lv_aload_n hx hb dX1_isMeaningRight_7 rfl (lv_at hl 0 rfl) ?_
    refine gf_X1_51 hC hb hP dX1_isMeaningRight_8 ?_
    refine lv_if_ne (tgt := 18) hx hb dX1_isMeaningRight_11 (by decide) (fun c2 => ?_) (fun c2 => ?_)
    · have h := of_f h c2
      exact t_X1_isMeaningRight_18  hF σ _ _ _ h hP hS (lv_sub hl [] rfl)
    · have h := of_t h c2
      refine lv_iconst (v := 1) hx hb dX1_isMeaningRight_14 (by decide) ?_
      refine lv_goto (tgt := 19) hx hb dX1_isMeaningRight_15 (by decide) ?_
      exact t_X1_isMeaningRight_19  hF 1 σ _ _ _ h hP hS (lv_sub hl [] rfl)

abbrev rm_X1_readVariable : Room := { frames := 4, cells := 0, slots := 0, locals := 89 }
def f_X1_readVariable_238 (σ : Sta) : Option (Unit × Sta) :=
  some ((), σ)
set_option maxHeartbeats 4000000 in
set_option maxRecDepth 100000 in
theorem t_X1_readVariable_238 {l : Launch} {D : va_G} {Y : CYs} {E : Nat → Nat} {p : Program} {e : Env} {s : State} {m : MethodId} {args : Array Value} {below : List Frame} {meth : Method} {c : Code} (hF : Fr p s m args meth c RX1 cX1_readVariable 9 none D Y E LC) {o : Unit × Sta} : ∀ (σ : Sta) (H : Heap) (locs : List Loc) (ls : Array Slot), f_X1_readVariable_238 σ = some o → va_P D vwCl (wd Y E σ 0 LC) H → va_S (AF E LC.length s.heap.size) s.heap H locs → lv_has ls 9 [] → WV p l e rm_X1_readVariable s m args below meth c LC Y D E o H locs (F0 m 238 ls []) := by
  intro σ H locs ls h hP hS hl
  unfold f_X1_readVariable_238 at h
  obtain ⟨hC, hb, hml, hr, hlk, hD, hSW⟩ := id hF
  have hx := hC.1
  exact x_vret hF hP hS h dX1_readVariable_238

def f_X1_readVariable_205 (v2 : Int32) (v3 : Int32) (v6 : Int32) (v7 : Int32) (v8 : Int32) (s0 : Int32) (σ : Sta) : Option (Unit × Sta) :=
  bnd (f_X1_demand s0 5 v3 σ) (fun _ σ2 =>
  bnd (f_X1_isMeaningRight σ2) (fun r4 σ5 =>
  if r4 = 0 then
    f_X1_readVariable_238 σ5
  else
    bnd (f_X7_contentOf v2 σ5) (fun r8 σ9 =>
    bnd (f_X4_addVariable r8 v8 v6 v7 σ9) (fun _ σ12 =>
    f_X1_readVariable_238 σ12))))
set_option maxHeartbeats 4000000 in
set_option maxRecDepth 100000 in
theorem t_X1_readVariable_205 {l : Launch} {D : va_G} {Y : CYs} {E : Nat → Nat} {p : Program} {e : Env} {s : State} {m : MethodId} {args : Array Value} {below : List Frame} {meth : Method} {c : Code} (hF : Fr p s m args meth c RX1 cX1_readVariable 9 none D Y E LC) {o : Unit × Sta} : ∀ (v2 : Int32) (v3 : Int32) (v6 : Int32) (v7 : Int32) (v8 : Int32) (s0 : Int32) (σ : Sta) (H : Heap) (locs : List Loc) (ls : Array Slot), f_X1_readVariable_205 v2 v3 v6 v7 v8 s0 σ = some o → va_P D vwCl (wd Y E σ 0 LC) H → va_S (AF E LC.length s.heap.size) s.heap H locs → lv_has ls 9 [(0, .ref (E 4)), (2, .int v2), (3, .int v3), (6, .int v6), (7, .int v7), (8, .int v8)] → WV p l e rm_X1_readVariable s m args below meth c LC Y D E o H locs (F0 m 205 ls [.int s0, .ref (E 4)]) := by
  intro v2 v3 v6 v7 v8 s0 σ H locs ls h hP hS hl
  unfold f_X1_readVariable_205 at h
  obtain ⟨hC, hb, hml, hr, hlk, hD, hSW⟩ := id hF
  have hx := hC.1
  refine lv_iconst (v := 5) hx hb dX1_readVariable_205 (by decide) ?_
  refine lv_iload_n hx hb dX1_readVariable_206 rfl (lv_at hl 2 rfl) ?_
  obtain ⟨r1, σ2, g3, h⟩ := of_bnd h
  refine x_VV (As := [.int s0, .int 5, .int v3]) (rest := []) hF hl hP hS (c_X1_demand g3) (cw_X1_62 hC rfl rfl ⟨Nat.le_of_ble_eq_true rfl, Nat.le_of_ble_eq_true rfl⟩) lc_4 rfl rfl rfl (Nat.le_of_ble_eq_true rfl) dX1_readVariable_207 ⟨Nat.zero_le _, Nat.zero_le _⟩ (fun H locs hP hS => ?_)
  refine lv_aload_n hx hb dX1_readVariable_210 rfl (lv_at hl 0 rfl) ?_
  obtain ⟨r4, σ5, g6, h⟩ := of_bnd h
  refine x_VI (As := []) (rest := []) hF hl hP hS (c_X1_isMeaningRight g6) (cw_X1_103 hC rfl rfl ⟨Nat.le_of_ble_eq_true rfl, Nat.le_of_ble_eq_true rfl⟩) lc_4 rfl rfl rfl (Nat.le_of_ble_eq_true rfl) dX1_readVariable_211 ⟨Nat.zero_le _, Nat.zero_le _⟩ (fun H locs hP hS => ?_)
  refine lv_if_eq (tgt := 238) hx hb dX1_readVariable_214 (by decide) (fun c7 => ?_) (fun c7 => ?_)
  · have h := of_t h c7
    exact t_X1_readVariable_238  hF σ5 _ _ _ h hP hS (lv_sub hl [] rfl)
  · have h := of_f h c7
    refine lv_aload_n hx hb dX1_readVariable_217 rfl (lv_at hl 0 rfl) ?_
    refine gf_X1_19 hC hb hP dX1_readVariable_218 ?_
    refine lv_aload_n hx hb dX1_readVariable_221 rfl (lv_at hl 0 rfl) ?_
    refine gf_X1_9 hC hb hP dX1_readVariable_222 ?_
    refine lv_iload_n hx hb dX1_readVariable_225 rfl (lv_at hl 1 rfl) ?_
    obtain ⟨r8, σ9, g10, h⟩ := of_bnd h
    refine x_VL (As := [.int v2]) (rest := [.ref (E 3)]) hF hl hP hS (c_X7_contentOf g10) (cw_X1_107 hC rfl rfl ⟨Nat.le_of_ble_eq_true rfl, Nat.le_of_ble_eq_true rfl⟩) lc_1 rfl rfl rfl (Nat.le_of_ble_eq_true rfl) dX1_readVariable_226 ⟨Nat.zero_le _, Nat.zero_le _⟩ (fun H locs hP hS => ?_)
    refine lv_iload hx hb dX1_readVariable_229 (lv_at hl 5 rfl) ?_
    refine lv_iload hx hb dX1_readVariable_231 (lv_at hl 3 rfl) ?_
    refine lv_iload hx hb dX1_readVariable_233 (lv_at hl 4 rfl) ?_
    obtain ⟨r11, σ12, g13, h⟩ := of_bnd h
    refine x_VV (As := [.long r8, .int v8, .int v6, .int v7]) (rest := []) hF hl hP hS (c_X4_addVariable g13) (cw_X1_111 hC rfl rfl ⟨Nat.le_of_ble_eq_true rfl, Nat.le_of_ble_eq_true rfl⟩) lc_3 rfl rfl rfl (Nat.le_of_ble_eq_true rfl) dX1_readVariable_235 ⟨Nat.zero_le _, Nat.zero_le _⟩ (fun H locs hP hS => ?_)
    exact t_X1_readVariable_238  hF σ12 _ _ _ h hP hS (lv_sub hl [] rfl)

def f_X1_readVariable_204 (v2 : Int32) (v3 : Int32) (v6 : Int32) (v7 : Int32) (v8 : Int32) (σ : Sta) : Option (Unit × Sta) :=
  f_X1_readVariable_205 v2 v3 v6 v7 v8 0 σ
set_option maxHeartbeats 4000000 in
set_option maxRecDepth 100000 in
theorem t_X1_readVariable_204 {l : Launch} {D : va_G} {Y : CYs} {E : Nat → Nat} {p : Program} {e : Env} {s : State} {m : MethodId} {args : Array Value} {below : List Frame} {meth : Method} {c : Code} (hF : Fr p s m args meth c RX1 cX1_readVariable 9 none D Y E LC) {o : Unit × Sta} : ∀ (v2 : Int32) (v3 : Int32) (v6 : Int32) (v7 : Int32) (v8 : Int32) (σ : Sta) (H : Heap) (locs : List Loc) (ls : Array Slot), f_X1_readVariable_204 v2 v3 v6 v7 v8 σ = some o → va_P D vwCl (wd Y E σ 0 LC) H → va_S (AF E LC.length s.heap.size) s.heap H locs → lv_has ls 9 [(0, .ref (E 4)), (2, .int v2), (3, .int v3), (6, .int v6), (7, .int v7), (8, .int v8)] → WV p l e rm_X1_readVariable s m args below meth c LC Y D E o H locs (F0 m 204 ls [.ref (E 4)]) := by
  intro v2 v3 v6 v7 v8 σ H locs ls h hP hS hl
  unfold f_X1_readVariable_204 at h
  obtain ⟨hC, hb, hml, hr, hlk, hD, hSW⟩ := id hF
  have hx := hC.1
  refine lv_iconst (v := 0) hx hb dX1_readVariable_204 (by decide) ?_
  exact t_X1_readVariable_205  hF v2 v3 v6 v7 v8 0 σ _ _ _ h hP hS (lv_sub hl [0, 1, 2, 3, 4, 5] rfl)

def f_X1_readVariable_179 (v2 : Int32) (v3 : Int32) (v5 : Int32) (v6 : Int32) (v7 : Int32) (v8 : Int32) (s0 : Int32) (σ : Sta) : Option (Unit × Sta) :=
  bnd (f_X1_demand s0 5 v5 σ) (fun _ σ2 =>
  if v8 < v6 then
    f_X1_readVariable_204 v2 v3 v6 v7 v8 σ2
  else
    if v7 < v8 then
      f_X1_readVariable_204 v2 v3 v6 v7 v8 σ2
    else
      f_X1_readVariable_205 v2 v3 v6 v7 v8 1 σ2)
set_option maxHeartbeats 4000000 in
set_option maxRecDepth 100000 in
theorem t_X1_readVariable_179 {l : Launch} {D : va_G} {Y : CYs} {E : Nat → Nat} {p : Program} {e : Env} {s : State} {m : MethodId} {args : Array Value} {below : List Frame} {meth : Method} {c : Code} (hF : Fr p s m args meth c RX1 cX1_readVariable 9 none D Y E LC) {o : Unit × Sta} : ∀ (v2 : Int32) (v3 : Int32) (v5 : Int32) (v6 : Int32) (v7 : Int32) (v8 : Int32) (s0 : Int32) (σ : Sta) (H : Heap) (locs : List Loc) (ls : Array Slot), f_X1_readVariable_179 v2 v3 v5 v6 v7 v8 s0 σ = some o → va_P D vwCl (wd Y E σ 0 LC) H → va_S (AF E LC.length s.heap.size) s.heap H locs → lv_has ls 9 [(0, .ref (E 4)), (2, .int v2), (3, .int v3), (5, .int v5), (6, .int v6), (7, .int v7), (8, .int v8)] → WV p l e rm_X1_readVariable s m args below meth c LC Y D E o H locs (F0 m 179 ls [.int s0, .ref (E 4)]) := by
  intro v2 v3 v5 v6 v7 v8 s0 σ H locs ls h hP hS hl
  unfold f_X1_readVariable_179 at h
  obtain ⟨hC, hb, hml, hr, hlk, hD, hSW⟩ := id hF
  have hx := hC.1
  refine lv_iconst (v := 5) hx hb dX1_readVariable_179 (by decide) ?_
  refine lv_iload hx hb dX1_readVariable_180 (lv_at hl 3 rfl) ?_
  obtain ⟨r1, σ2, g3, h⟩ := of_bnd h
  refine x_VV (As := [.int s0, .int 5, .int v5]) (rest := []) hF hl hP hS (c_X1_demand g3) (cw_X1_62 hC rfl rfl ⟨Nat.le_of_ble_eq_true rfl, Nat.le_of_ble_eq_true rfl⟩) lc_4 rfl rfl rfl (Nat.le_of_ble_eq_true rfl) dX1_readVariable_182 ⟨Nat.zero_le _, Nat.zero_le _⟩ (fun H locs hP hS => ?_)
  refine lv_aload_n hx hb dX1_readVariable_185 rfl (lv_at hl 0 rfl) ?_
  refine lv_iload hx hb dX1_readVariable_186 (lv_at hl 4 rfl) ?_
  refine lv_iload hx hb dX1_readVariable_188 (lv_at hl 6 rfl) ?_
  refine lv_icmp_gt (tgt := 204) hx hb dX1_readVariable_190 (by decide) (fun c4 => ?_) (fun c4 => ?_)
  · have h := of_t h c4
    exact t_X1_readVariable_204  hF v2 v3 v6 v7 v8 σ2 _ _ _ h hP hS (lv_sub hl [0, 1, 2, 4, 5, 6] rfl)
  · have h := of_f h c4
    refine lv_iload hx hb dX1_readVariable_193 (lv_at hl 6 rfl) ?_
    refine lv_iload hx hb dX1_readVariable_195 (lv_at hl 5 rfl) ?_
    refine lv_icmp_gt (tgt := 204) hx hb dX1_readVariable_197 (by decide) (fun c5 => ?_) (fun c5 => ?_)
    · have h := of_t h c5
      exact t_X1_readVariable_204  hF v2 v3 v6 v7 v8 σ2 _ _ _ h hP hS (lv_sub hl [0, 1, 2, 4, 5, 6] rfl)
    · have h := of_f h c5
      refine lv_iconst (v := 1) hx hb dX1_readVariable_200 (by decide) ?_
      refine lv_goto (tgt := 205) hx hb dX1_readVariable_201 (by decide) ?_
      exact t_X1_readVariable_205  hF v2 v3 v6 v7 v8 1 σ2 _ _ _ h hP hS (lv_sub hl [0, 1, 2, 4, 5, 6] rfl)

def f_X1_readVariable_160 (v2 : Int32) (v3 : Int32) (v5 : Int32) (v6 : Int32) (v7 : Int32) (v8 : Int32) (s0 : Int32) (σ : Sta) : Option (Unit × Sta) :=
  bnd (f_X1_demand s0 5 v5 σ) (fun _ σ2 =>
  if v7 < v6 then
    f_X1_readVariable_179 v2 v3 v5 v6 v7 v8 0 σ2
  else
    f_X1_readVariable_179 v2 v3 v5 v6 v7 v8 1 σ2)
set_option maxHeartbeats 4000000 in
set_option maxRecDepth 100000 in
theorem t_X1_readVariable_160 {l : Launch} {D : va_G} {Y : CYs} {E : Nat → Nat} {p : Program} {e : Env} {s : State} {m : MethodId} {args : Array Value} {below : List Frame} {meth : Method} {c : Code} (hF : Fr p s m args meth c RX1 cX1_readVariable 9 none D Y E LC) {o : Unit × Sta} : ∀ (v2 : Int32) (v3 : Int32) (v5 : Int32) (v6 : Int32) (v7 : Int32) (v8 : Int32) (s0 : Int32) (σ : Sta) (H : Heap) (locs : List Loc) (ls : Array Slot), f_X1_readVariable_160 v2 v3 v5 v6 v7 v8 s0 σ = some o → va_P D vwCl (wd Y E σ 0 LC) H → va_S (AF E LC.length s.heap.size) s.heap H locs → lv_has ls 9 [(0, .ref (E 4)), (2, .int v2), (3, .int v3), (5, .int v5), (6, .int v6), (7, .int v7), (8, .int v8)] → WV p l e rm_X1_readVariable s m args below meth c LC Y D E o H locs (F0 m 160 ls [.int s0, .ref (E 4)]) := by
  intro v2 v3 v5 v6 v7 v8 s0 σ H locs ls h hP hS hl
  unfold f_X1_readVariable_160 at h
  obtain ⟨hC, hb, hml, hr, hlk, hD, hSW⟩ := id hF
  have hx := hC.1
  refine lv_iconst (v := 5) hx hb dX1_readVariable_160 (by decide) ?_
  refine lv_iload hx hb dX1_readVariable_161 (lv_at hl 3 rfl) ?_
  obtain ⟨r1, σ2, g3, h⟩ := of_bnd h
  refine x_VV (As := [.int s0, .int 5, .int v5]) (rest := []) hF hl hP hS (c_X1_demand g3) (cw_X1_62 hC rfl rfl ⟨Nat.le_of_ble_eq_true rfl, Nat.le_of_ble_eq_true rfl⟩) lc_4 rfl rfl rfl (Nat.le_of_ble_eq_true rfl) dX1_readVariable_163 ⟨Nat.zero_le _, Nat.zero_le _⟩ (fun H locs hP hS => ?_)
  refine lv_aload_n hx hb dX1_readVariable_166 rfl (lv_at hl 0 rfl) ?_
  refine lv_iload hx hb dX1_readVariable_167 (lv_at hl 4 rfl) ?_
  refine lv_iload hx hb dX1_readVariable_169 (lv_at hl 5 rfl) ?_
  refine lv_icmp_gt (tgt := 178) hx hb dX1_readVariable_171 (by decide) (fun c4 => ?_) (fun c4 => ?_)
  · have h := of_t h c4
    refine lv_iconst (v := 0) hx hb dX1_readVariable_178 (by decide) ?_
    exact t_X1_readVariable_179  hF v2 v3 v5 v6 v7 v8 0 σ2 _ _ _ h hP hS (lv_sub hl [0, 1, 2, 3, 4, 5, 6] rfl)
  · have h := of_f h c4
    refine lv_iconst (v := 1) hx hb dX1_readVariable_174 (by decide) ?_
    refine lv_goto (tgt := 179) hx hb dX1_readVariable_175 (by decide) ?_
    exact t_X1_readVariable_179  hF v2 v3 v5 v6 v7 v8 1 σ2 _ _ _ h hP hS (lv_sub hl [0, 1, 2, 3, 4, 5, 6] rfl)

def f_X1_readVariable_159 (v2 : Int32) (v3 : Int32) (v5 : Int32) (v6 : Int32) (v7 : Int32) (v8 : Int32) (σ : Sta) : Option (Unit × Sta) :=
  f_X1_readVariable_160 v2 v3 v5 v6 v7 v8 0 σ
set_option maxHeartbeats 4000000 in
set_option maxRecDepth 100000 in
theorem t_X1_readVariable_159 {l : Launch} {D : va_G} {Y : CYs} {E : Nat → Nat} {p : Program} {e : Env} {s : State} {m : MethodId} {args : Array Value} {below : List Frame} {meth : Method} {c : Code} (hF : Fr p s m args meth c RX1 cX1_readVariable 9 none D Y E LC) {o : Unit × Sta} : ∀ (v2 : Int32) (v3 : Int32) (v5 : Int32) (v6 : Int32) (v7 : Int32) (v8 : Int32) (σ : Sta) (H : Heap) (locs : List Loc) (ls : Array Slot), f_X1_readVariable_159 v2 v3 v5 v6 v7 v8 σ = some o → va_P D vwCl (wd Y E σ 0 LC) H → va_S (AF E LC.length s.heap.size) s.heap H locs → lv_has ls 9 [(0, .ref (E 4)), (2, .int v2), (3, .int v3), (5, .int v5), (6, .int v6), (7, .int v7), (8, .int v8)] → WV p l e rm_X1_readVariable s m args below meth c LC Y D E o H locs (F0 m 159 ls [.ref (E 4)]) := by
  intro v2 v3 v5 v6 v7 v8 σ H locs ls h hP hS hl
  unfold f_X1_readVariable_159 at h
  obtain ⟨hC, hb, hml, hr, hlk, hD, hSW⟩ := id hF
  have hx := hC.1
  refine lv_iconst (v := 0) hx hb dX1_readVariable_159 (by decide) ?_
  exact t_X1_readVariable_160  hF v2 v3 v5 v6 v7 v8 0 σ _ _ _ h hP hS (lv_sub hl [0, 1, 2, 3, 4, 5, 6] rfl)

def f_X1_readVariable_134 (v2 : Int32) (v3 : Int32) (v4 : Int32) (v5 : Int32) (v6 : Int32) (v7 : Int32) (v8 : Int32) (s0 : Int32) (σ : Sta) : Option (Unit × Sta) :=
  bnd (f_X1_demand s0 5 v4 σ) (fun _ σ2 =>
  if v7 < -99 then
    f_X1_readVariable_159 v2 v3 v5 v6 v7 v8 σ2
  else
    if 99 < v7 then
      f_X1_readVariable_159 v2 v3 v5 v6 v7 v8 σ2
    else
      f_X1_readVariable_160 v2 v3 v5 v6 v7 v8 1 σ2)
set_option maxHeartbeats 4000000 in
set_option maxRecDepth 100000 in
theorem t_X1_readVariable_134 {l : Launch} {D : va_G} {Y : CYs} {E : Nat → Nat} {p : Program} {e : Env} {s : State} {m : MethodId} {args : Array Value} {below : List Frame} {meth : Method} {c : Code} (hF : Fr p s m args meth c RX1 cX1_readVariable 9 none D Y E LC) {o : Unit × Sta} : ∀ (v2 : Int32) (v3 : Int32) (v4 : Int32) (v5 : Int32) (v6 : Int32) (v7 : Int32) (v8 : Int32) (s0 : Int32) (σ : Sta) (H : Heap) (locs : List Loc) (ls : Array Slot), f_X1_readVariable_134 v2 v3 v4 v5 v6 v7 v8 s0 σ = some o → va_P D vwCl (wd Y E σ 0 LC) H → va_S (AF E LC.length s.heap.size) s.heap H locs → lv_has ls 9 [(0, .ref (E 4)), (2, .int v2), (3, .int v3), (4, .int v4), (5, .int v5), (6, .int v6), (7, .int v7), (8, .int v8)] → WV p l e rm_X1_readVariable s m args below meth c LC Y D E o H locs (F0 m 134 ls [.int s0, .ref (E 4)]) := by
  intro v2 v3 v4 v5 v6 v7 v8 s0 σ H locs ls h hP hS hl
  unfold f_X1_readVariable_134 at h
  obtain ⟨hC, hb, hml, hr, hlk, hD, hSW⟩ := id hF
  have hx := hC.1
  refine lv_iconst (v := 5) hx hb dX1_readVariable_134 (by decide) ?_
  refine lv_iload hx hb dX1_readVariable_135 (lv_at hl 3 rfl) ?_
  obtain ⟨r1, σ2, g3, h⟩ := of_bnd h
  refine x_VV (As := [.int s0, .int 5, .int v4]) (rest := []) hF hl hP hS (c_X1_demand g3) (cw_X1_62 hC rfl rfl ⟨Nat.le_of_ble_eq_true rfl, Nat.le_of_ble_eq_true rfl⟩) lc_4 rfl rfl rfl (Nat.le_of_ble_eq_true rfl) dX1_readVariable_137 ⟨Nat.zero_le _, Nat.zero_le _⟩ (fun H locs hP hS => ?_)
  refine lv_aload_n hx hb dX1_readVariable_140 rfl (lv_at hl 0 rfl) ?_
  refine lv_iload hx hb dX1_readVariable_141 (lv_at hl 6 rfl) ?_
  refine lv_bipush (v := -99) hx hb dX1_readVariable_143 (by decide) ?_
  refine lv_icmp_lt (tgt := 159) hx hb dX1_readVariable_145 (by decide) (fun c4 => ?_) (fun c4 => ?_)
  · have h := of_t h c4
    exact t_X1_readVariable_159  hF v2 v3 v5 v6 v7 v8 σ2 _ _ _ h hP hS (lv_sub hl [0, 1, 2, 4, 5, 6, 7] rfl)
  · have h := of_f h c4
    refine lv_iload hx hb dX1_readVariable_148 (lv_at hl 6 rfl) ?_
    refine lv_bipush (v := 99) hx hb dX1_readVariable_150 (by decide) ?_
    refine lv_icmp_gt (tgt := 159) hx hb dX1_readVariable_152 (by decide) (fun c5 => ?_) (fun c5 => ?_)
    · have h := of_t h c5
      exact t_X1_readVariable_159  hF v2 v3 v5 v6 v7 v8 σ2 _ _ _ h hP hS (lv_sub hl [0, 1, 2, 4, 5, 6, 7] rfl)
    · have h := of_f h c5
      refine lv_iconst (v := 1) hx hb dX1_readVariable_155 (by decide) ?_
      refine lv_goto (tgt := 160) hx hb dX1_readVariable_156 (by decide) ?_
      exact t_X1_readVariable_160  hF v2 v3 v5 v6 v7 v8 1 σ2 _ _ _ h hP hS (lv_sub hl [0, 1, 2, 4, 5, 6, 7] rfl)

def f_X1_readVariable_133 (v2 : Int32) (v3 : Int32) (v4 : Int32) (v5 : Int32) (v6 : Int32) (v7 : Int32) (v8 : Int32) (σ : Sta) : Option (Unit × Sta) :=
  f_X1_readVariable_134 v2 v3 v4 v5 v6 v7 v8 0 σ
set_option maxHeartbeats 4000000 in
set_option maxRecDepth 100000 in
theorem t_X1_readVariable_133 {l : Launch} {D : va_G} {Y : CYs} {E : Nat → Nat} {p : Program} {e : Env} {s : State} {m : MethodId} {args : Array Value} {below : List Frame} {meth : Method} {c : Code} (hF : Fr p s m args meth c RX1 cX1_readVariable 9 none D Y E LC) {o : Unit × Sta} : ∀ (v2 : Int32) (v3 : Int32) (v4 : Int32) (v5 : Int32) (v6 : Int32) (v7 : Int32) (v8 : Int32) (σ : Sta) (H : Heap) (locs : List Loc) (ls : Array Slot), f_X1_readVariable_133 v2 v3 v4 v5 v6 v7 v8 σ = some o → va_P D vwCl (wd Y E σ 0 LC) H → va_S (AF E LC.length s.heap.size) s.heap H locs → lv_has ls 9 [(0, .ref (E 4)), (2, .int v2), (3, .int v3), (4, .int v4), (5, .int v5), (6, .int v6), (7, .int v7), (8, .int v8)] → WV p l e rm_X1_readVariable s m args below meth c LC Y D E o H locs (F0 m 133 ls [.ref (E 4)]) := by
  intro v2 v3 v4 v5 v6 v7 v8 σ H locs ls h hP hS hl
  unfold f_X1_readVariable_133 at h
  obtain ⟨hC, hb, hml, hr, hlk, hD, hSW⟩ := id hF
  have hx := hC.1
  refine lv_iconst (v := 0) hx hb dX1_readVariable_133 (by decide) ?_
  exact t_X1_readVariable_134  hF v2 v3 v4 v5 v6 v7 v8 0 σ _ _ _ h hP hS (lv_sub hl [0, 1, 2, 3, 4, 5, 6, 7] rfl)

def f_X1_readVariable_81 (v1 : Int32) (v2 : Int32) (v3 : Int32) (v4 : Int32) (v5 : Int32) (s0 : Int32) (σ : Sta) : Option (Unit × Sta) :=
  bnd (f_X1_demand s0 4 v1 σ) (fun _ σ2 =>
  bnd (f_X1_demandNewName v2 σ2) (fun _ σ5 =>
  bnd (f_X1_wholeAt v4 σ5) (fun r7 σ8 =>
  bnd (f_X1_wholeAt v5 σ8) (fun r10 σ11 =>
  bnd (f_X1_wholeAt v3 σ11) (fun r13 σ14 =>
  if r7 < -99 then
    f_X1_readVariable_133 v2 v3 v4 v5 r7 r10 r13 σ14
  else
    if 99 < r7 then
      f_X1_readVariable_133 v2 v3 v4 v5 r7 r10 r13 σ14
    else
      f_X1_readVariable_134 v2 v3 v4 v5 r7 r10 r13 1 σ14)))))
set_option maxHeartbeats 4000000 in
set_option maxRecDepth 100000 in
theorem t_X1_readVariable_81 {l : Launch} {D : va_G} {Y : CYs} {E : Nat → Nat} {p : Program} {e : Env} {s : State} {m : MethodId} {args : Array Value} {below : List Frame} {meth : Method} {c : Code} (hF : Fr p s m args meth c RX1 cX1_readVariable 9 none D Y E LC) {o : Unit × Sta} : ∀ (v1 : Int32) (v2 : Int32) (v3 : Int32) (v4 : Int32) (v5 : Int32) (s0 : Int32) (σ : Sta) (H : Heap) (locs : List Loc) (ls : Array Slot), f_X1_readVariable_81 v1 v2 v3 v4 v5 s0 σ = some o → va_P D vwCl (wd Y E σ 0 LC) H → va_S (AF E LC.length s.heap.size) s.heap H locs → lv_has ls 9 [(0, .ref (E 4)), (1, .int v1), (2, .int v2), (3, .int v3), (4, .int v4), (5, .int v5)] → WV p l e rm_X1_readVariable s m args below meth c LC Y D E o H locs (F0 m 81 ls [.int s0, .ref (E 4)]) := by
  intro v1 v2 v3 v4 v5 s0 σ H locs ls h hP hS hl
  unfold f_X1_readVariable_81 at h
  obtain ⟨hC, hb, hml, hr, hlk, hD, hSW⟩ := id hF
  have hx := hC.1
  refine lv_iconst (v := 4) hx hb dX1_readVariable_81 (by decide) ?_
  refine lv_iload_n hx hb dX1_readVariable_82 rfl (lv_at hl 1 rfl) ?_
  obtain ⟨r1, σ2, g3, h⟩ := of_bnd h
  refine x_VV (As := [.int s0, .int 4, .int v1]) (rest := []) hF hl hP hS (c_X1_demand g3) (cw_X1_62 hC rfl rfl ⟨Nat.le_of_ble_eq_true rfl, Nat.le_of_ble_eq_true rfl⟩) lc_4 rfl rfl rfl (Nat.le_of_ble_eq_true rfl) dX1_readVariable_83 ⟨Nat.zero_le _, Nat.zero_le _⟩ (fun H locs hP hS => ?_)
  refine lv_aload_n hx hb dX1_readVariable_86 rfl (lv_at hl 0 rfl) ?_
  refine lv_iload_n hx hb dX1_readVariable_87 rfl (lv_at hl 2 rfl) ?_
  obtain ⟨r4, σ5, g6, h⟩ := of_bnd h
  refine x_VV (As := [.int v2]) (rest := []) hF hl hP hS (c_X1_demandNewName g6) (cw_X1_96 hC rfl rfl ⟨Nat.le_of_ble_eq_true rfl, Nat.le_of_ble_eq_true rfl⟩) lc_4 rfl rfl rfl (Nat.le_of_ble_eq_true rfl) dX1_readVariable_88 ⟨Nat.zero_le _, Nat.zero_le _⟩ (fun H locs hP hS => ?_)
  refine lv_aload_n hx hb dX1_readVariable_91 rfl (lv_at hl 0 rfl) ?_
  refine lv_iload hx hb dX1_readVariable_92 (lv_at hl 4 rfl) ?_
  obtain ⟨r7, σ8, g9, h⟩ := of_bnd h
  refine x_VI (As := [.int v4]) (rest := []) hF hl hP hS (c_X1_wholeAt g9) (cw_X1_100 hC rfl rfl ⟨Nat.le_of_ble_eq_true rfl, Nat.le_of_ble_eq_true rfl⟩) lc_4 rfl rfl rfl (Nat.le_of_ble_eq_true rfl) dX1_readVariable_94 ⟨Nat.zero_le _, Nat.zero_le _⟩ (fun H locs hP hS => ?_)
  refine lv_istore (lv' := [(6, .int r7), (0, .ref (E 4)), (1, .int v1), (2, .int v2), (3, .int v3), (4, .int v4), (5, .int v5)]) hx hb dX1_readVariable_97 hl (by decide) rfl (fun ls hl => ?_)
  refine lv_aload_n hx hb dX1_readVariable_99 rfl (lv_at hl 1 rfl) ?_
  refine lv_iload hx hb dX1_readVariable_100 (lv_at hl 6 rfl) ?_
  obtain ⟨r10, σ11, g12, h⟩ := of_bnd h
  refine x_VI (As := [.int v5]) (rest := []) hF hl hP hS (c_X1_wholeAt g12) (cw_X1_100 hC rfl rfl ⟨Nat.le_of_ble_eq_true rfl, Nat.le_of_ble_eq_true rfl⟩) lc_4 rfl rfl rfl (Nat.le_of_ble_eq_true rfl) dX1_readVariable_102 ⟨Nat.zero_le _, Nat.zero_le _⟩ (fun H locs hP hS => ?_)
  refine lv_istore (lv' := [(7, .int r10), (6, .int r7), (0, .ref (E 4)), (1, .int v1), (2, .int v2), (3, .int v3), (4, .int v4), (5, .int v5)]) hx hb dX1_readVariable_105 hl (by decide) rfl (fun ls hl => ?_)
  refine lv_aload_n hx hb dX1_readVariable_107 rfl (lv_at hl 2 rfl) ?_
  refine lv_iload_n hx hb dX1_readVariable_108 rfl (lv_at hl 5 rfl) ?_
  obtain ⟨r13, σ14, g15, h⟩ := of_bnd h
  refine x_VI (As := [.int v3]) (rest := []) hF hl hP hS (c_X1_wholeAt g15) (cw_X1_100 hC rfl rfl ⟨Nat.le_of_ble_eq_true rfl, Nat.le_of_ble_eq_true rfl⟩) lc_4 rfl rfl rfl (Nat.le_of_ble_eq_true rfl) dX1_readVariable_109 ⟨Nat.zero_le _, Nat.zero_le _⟩ (fun H locs hP hS => ?_)
  refine lv_istore (lv' := [(8, .int r13), (7, .int r10), (6, .int r7), (0, .ref (E 4)), (1, .int v1), (2, .int v2), (3, .int v3), (4, .int v4), (5, .int v5)]) hx hb dX1_readVariable_112 hl (by decide) rfl (fun ls hl => ?_)
  refine lv_aload_n hx hb dX1_readVariable_114 rfl (lv_at hl 3 rfl) ?_
  refine lv_iload hx hb dX1_readVariable_115 (lv_at hl 2 rfl) ?_
  refine lv_bipush (v := -99) hx hb dX1_readVariable_117 (by decide) ?_
  refine lv_icmp_lt (tgt := 133) hx hb dX1_readVariable_119 (by decide) (fun c16 => ?_) (fun c16 => ?_)
  · have h := of_t h c16
    exact t_X1_readVariable_133  hF v2 v3 v4 v5 r7 r10 r13 σ14 _ _ _ h hP hS (lv_sub hl [3, 5, 6, 7, 8, 2, 1, 0] rfl)
  · have h := of_f h c16
    refine lv_iload hx hb dX1_readVariable_122 (lv_at hl 2 rfl) ?_
    refine lv_bipush (v := 99) hx hb dX1_readVariable_124 (by decide) ?_
    refine lv_icmp_gt (tgt := 133) hx hb dX1_readVariable_126 (by decide) (fun c17 => ?_) (fun c17 => ?_)
    · have h := of_t h c17
      exact t_X1_readVariable_133  hF v2 v3 v4 v5 r7 r10 r13 σ14 _ _ _ h hP hS (lv_sub hl [3, 5, 6, 7, 8, 2, 1, 0] rfl)
    · have h := of_f h c17
      refine lv_iconst (v := 1) hx hb dX1_readVariable_129 (by decide) ?_
      refine lv_goto (tgt := 134) hx hb dX1_readVariable_130 (by decide) ?_
      exact t_X1_readVariable_134  hF v2 v3 v4 v5 r7 r10 r13 1 σ14 _ _ _ h hP hS (lv_sub hl [3, 5, 6, 7, 8, 2, 1, 0] rfl)

def f_X1_readVariable (σ : Sta) : Option (Unit × Sta) :=
  bnd (f_X1_expect 256 σ) (fun r1 σ2 =>
  bnd (f_X1_expect 273 σ2) (fun r4 σ5 =>
  bnd (f_X1_expect 61 σ5) (fun r7 σ8 =>
  bnd (f_X1_readWhole σ8) (fun r10 σ11 =>
  bnd (f_X1_expect 257 σ11) (fun r13 σ14 =>
  bnd (f_X1_readWhole σ14) (fun r16 σ17 =>
  bnd (f_X1_expect 258 σ17) (fun r19 σ20 =>
  bnd (f_X1_readWhole σ20) (fun r22 σ23 =>
  bnd (f_X1_expect 59 σ23) (fun r25 σ26 =>
  if 6 ≤ gI σ26 192 then
    f_X1_readVariable_81 r1 r4 r10 r16 r22 0 σ26
  else
    f_X1_readVariable_81 r1 r4 r10 r16 r22 1 σ26)))))))))
set_option maxHeartbeats 4000000 in
set_option maxRecDepth 100000 in
theorem c_X1_readVariable {l : Launch} {D : va_G} {Y : CYs} {E : Nat → Nat} {σ : Sta} {o : Unit × Sta} (h : f_X1_readVariable σ = some o) : MV l yX1_readVariable (Cond.code yX1_readVariable cX1_readVariable 9 none :: gW) rm_X1_readVariable LC Y D E [.ref (E 4)] σ o := by
  intro sz
  refine Met_of (Qc := fun sz => QV LC Y D E sz o) (by decide) (Nat.le_of_ble_eq_true rfl) (fun p e s m args below meth c hF hP ls hl => ?_) sz
  have hS : va_S (AF E LC.length s.heap.size) s.heap s.heap [] := va_S.rf
  have hl : lv_has ls 9 [(0, .ref (E 4))] := hl
  show WV p l e rm_X1_readVariable s m args below meth c LC Y D E o s.heap [] (F0 m 0 ls [])
  unfold f_X1_readVariable at h
  obtain ⟨hC, hb, hml, hr, hlk, hD, hSW⟩ := id hF
  have hx := hC.1
  refine lv_aload_n hx hb dX1_readVariable_0 rfl (lv_at hl 0 rfl) ?_
  refine lv_sipush (v := 256) hx hb dX1_readVariable_1 (by decide) ?_
  obtain ⟨r1, σ2, g3, h⟩ := of_bnd h
  refine x_VI (As := [.int 256]) (rest := []) hF hl hP hS (c_X1_expect g3) (cw_X1_89 hC rfl rfl ⟨Nat.le_of_ble_eq_true rfl, Nat.le_of_ble_eq_true rfl⟩) lc_4 rfl rfl rfl (Nat.le_of_ble_eq_true rfl) dX1_readVariable_4 ⟨Nat.zero_le _, Nat.zero_le _⟩ (fun H locs hP hS => ?_)
  refine lv_istore_n (lv' := [(1, .int r1), (0, .ref (E 4))]) hx hb dX1_readVariable_7 rfl hl (by decide) rfl (fun ls hl => ?_)
  refine lv_aload_n hx hb dX1_readVariable_8 rfl (lv_at hl 1 rfl) ?_
  refine lv_sipush (v := 273) hx hb dX1_readVariable_9 (by decide) ?_
  obtain ⟨r4, σ5, g6, h⟩ := of_bnd h
  refine x_VI (As := [.int 273]) (rest := []) hF hl hP hS (c_X1_expect g6) (cw_X1_89 hC rfl rfl ⟨Nat.le_of_ble_eq_true rfl, Nat.le_of_ble_eq_true rfl⟩) lc_4 rfl rfl rfl (Nat.le_of_ble_eq_true rfl) dX1_readVariable_12 ⟨Nat.zero_le _, Nat.zero_le _⟩ (fun H locs hP hS => ?_)
  refine lv_istore_n (lv' := [(2, .int r4), (1, .int r1), (0, .ref (E 4))]) hx hb dX1_readVariable_15 rfl hl (by decide) rfl (fun ls hl => ?_)
  refine lv_aload_n hx hb dX1_readVariable_16 rfl (lv_at hl 2 rfl) ?_
  refine lv_bipush (v := 61) hx hb dX1_readVariable_17 (by decide) ?_
  obtain ⟨r7, σ8, g9, h⟩ := of_bnd h
  refine x_VI (As := [.int 61]) (rest := []) hF hl hP hS (c_X1_expect g9) (cw_X1_89 hC rfl rfl ⟨Nat.le_of_ble_eq_true rfl, Nat.le_of_ble_eq_true rfl⟩) lc_4 rfl rfl rfl (Nat.le_of_ble_eq_true rfl) dX1_readVariable_19 ⟨Nat.zero_le _, Nat.zero_le _⟩ (fun H locs hP hS => ?_)
  refine lv_pop hx hb dX1_readVariable_22 rfl ?_
  refine lv_aload_n hx hb dX1_readVariable_23 rfl (lv_at hl 2 rfl) ?_
  obtain ⟨r10, σ11, g12, h⟩ := of_bnd h
  refine x_VI (As := []) (rest := []) hF hl hP hS (c_X1_readWhole g12) (cw_X1_93 hC rfl rfl ⟨Nat.le_of_ble_eq_true rfl, Nat.le_of_ble_eq_true rfl⟩) lc_4 rfl rfl rfl (Nat.le_of_ble_eq_true rfl) dX1_readVariable_24 ⟨Nat.zero_le _, Nat.zero_le _⟩ (fun H locs hP hS => ?_)
  refine lv_istore_n (lv' := [(3, .int r10), (2, .int r4), (1, .int r1), (0, .ref (E 4))]) hx hb dX1_readVariable_27 rfl hl (by decide) rfl (fun ls hl => ?_)
  refine lv_aload_n hx hb dX1_readVariable_28 rfl (lv_at hl 3 rfl) ?_
  refine lv_sipush (v := 257) hx hb dX1_readVariable_29 (by decide) ?_
  obtain ⟨r13, σ14, g15, h⟩ := of_bnd h
  refine x_VI (As := [.int 257]) (rest := []) hF hl hP hS (c_X1_expect g15) (cw_X1_89 hC rfl rfl ⟨Nat.le_of_ble_eq_true rfl, Nat.le_of_ble_eq_true rfl⟩) lc_4 rfl rfl rfl (Nat.le_of_ble_eq_true rfl) dX1_readVariable_32 ⟨Nat.zero_le _, Nat.zero_le _⟩ (fun H locs hP hS => ?_)
  refine lv_pop hx hb dX1_readVariable_35 rfl ?_
  refine lv_aload_n hx hb dX1_readVariable_36 rfl (lv_at hl 3 rfl) ?_
  obtain ⟨r16, σ17, g18, h⟩ := of_bnd h
  refine x_VI (As := []) (rest := []) hF hl hP hS (c_X1_readWhole g18) (cw_X1_93 hC rfl rfl ⟨Nat.le_of_ble_eq_true rfl, Nat.le_of_ble_eq_true rfl⟩) lc_4 rfl rfl rfl (Nat.le_of_ble_eq_true rfl) dX1_readVariable_37 ⟨Nat.zero_le _, Nat.zero_le _⟩ (fun H locs hP hS => ?_)
  refine lv_istore (lv' := [(4, .int r16), (3, .int r10), (2, .int r4), (1, .int r1), (0, .ref (E 4))]) hx hb dX1_readVariable_40 hl (by decide) rfl (fun ls hl => ?_)
  refine lv_aload_n hx hb dX1_readVariable_42 rfl (lv_at hl 4 rfl) ?_
  refine lv_sipush (v := 258) hx hb dX1_readVariable_43 (by decide) ?_
  obtain ⟨r19, σ20, g21, h⟩ := of_bnd h
  refine x_VI (As := [.int 258]) (rest := []) hF hl hP hS (c_X1_expect g21) (cw_X1_89 hC rfl rfl ⟨Nat.le_of_ble_eq_true rfl, Nat.le_of_ble_eq_true rfl⟩) lc_4 rfl rfl rfl (Nat.le_of_ble_eq_true rfl) dX1_readVariable_46 ⟨Nat.zero_le _, Nat.zero_le _⟩ (fun H locs hP hS => ?_)
  refine lv_pop hx hb dX1_readVariable_49 rfl ?_
  refine lv_aload_n hx hb dX1_readVariable_50 rfl (lv_at hl 4 rfl) ?_
  obtain ⟨r22, σ23, g24, h⟩ := of_bnd h
  refine x_VI (As := []) (rest := []) hF hl hP hS (c_X1_readWhole g24) (cw_X1_93 hC rfl rfl ⟨Nat.le_of_ble_eq_true rfl, Nat.le_of_ble_eq_true rfl⟩) lc_4 rfl rfl rfl (Nat.le_of_ble_eq_true rfl) dX1_readVariable_51 ⟨Nat.zero_le _, Nat.zero_le _⟩ (fun H locs hP hS => ?_)
  refine lv_istore (lv' := [(5, .int r22), (4, .int r16), (3, .int r10), (2, .int r4), (1, .int r1), (0, .ref (E 4))]) hx hb dX1_readVariable_54 hl (by decide) rfl (fun ls hl => ?_)
  refine lv_aload_n hx hb dX1_readVariable_56 rfl (lv_at hl 5 rfl) ?_
  refine lv_bipush (v := 59) hx hb dX1_readVariable_57 (by decide) ?_
  obtain ⟨r25, σ26, g27, h⟩ := of_bnd h
  refine x_VI (As := [.int 59]) (rest := []) hF hl hP hS (c_X1_expect g27) (cw_X1_89 hC rfl rfl ⟨Nat.le_of_ble_eq_true rfl, Nat.le_of_ble_eq_true rfl⟩) lc_4 rfl rfl rfl (Nat.le_of_ble_eq_true rfl) dX1_readVariable_59 ⟨Nat.zero_le _, Nat.zero_le _⟩ (fun H locs hP hS => ?_)
  refine lv_pop hx hb dX1_readVariable_62 rfl ?_
  refine lv_aload_n hx hb dX1_readVariable_63 rfl (lv_at hl 5 rfl) ?_
  refine lv_aload_n hx hb dX1_readVariable_64 rfl (lv_at hl 5 rfl) ?_
  refine gf_X1_19 hC hb hP dX1_readVariable_65 ?_
  refine gf_X1_54 hC hb hP dX1_readVariable_68 ?_
  refine lv_bipush (v := 6) hx hb dX1_readVariable_71 (by decide) ?_
  refine lv_icmp_ge (tgt := 80) hx hb dX1_readVariable_73 (by decide) (fun c28 => ?_) (fun c28 => ?_)
  · have h := of_t h c28
    refine lv_iconst (v := 0) hx hb dX1_readVariable_80 (by decide) ?_
    exact t_X1_readVariable_81  hF r1 r4 r10 r16 r22 0 σ26 _ _ _ h hP hS (lv_sub hl [5, 4, 3, 2, 1, 0] rfl)
  · have h := of_f h c28
    refine lv_iconst (v := 1) hx hb dX1_readVariable_76 (by decide) ?_
    refine lv_goto (tgt := 81) hx hb dX1_readVariable_77 (by decide) ?_
    exact t_X1_readVariable_81  hF r1 r4 r10 r16 r22 1 σ26 _ _ _ h hP hS (lv_sub hl [5, 4, 3, 2, 1, 0] rfl)

abbrev rm_X1_commandNamed : Room := { frames := 1, cells := 0, slots := 0, locals := 21 }
def f_X1_commandNamed_55 (k5 : Int64 → Int32 → Int32 → Sta → Option (Int32 × Sta)) (v1 : Int64) (v3 : Int32) (v4 : Int32) (σ : Sta) : Option (Int32 × Sta) :=
  lt (v4 + 1) (fun x1 =>
  k5 v1 v3 x1 σ)
set_option maxHeartbeats 4000000 in
set_option maxRecDepth 100000 in
theorem t_X1_commandNamed_55 {l : Launch} {D : va_G} {Y : CYs} {E : Nat → Nat} {p : Program} {e : Env} {s : State} {m : MethodId} {args : Array Value} {below : List Frame} {meth : Method} {c : Code} (hF : Fr p s m args meth c RX1 cX1_commandNamed 5 (some .int) D Y E LC) {o : Int32 × Sta} (k5 : Int64 → Int32 → Int32 → Sta → Option (Int32 × Sta)) (hk5 : ∀ (v1 : Int64) (v3 : Int32) (v4 : Int32) (σ : Sta) (H : Heap) (locs : List Loc) (ls : Array Slot), k5 v1 v3 v4 σ = some o → va_P D vwCl (wd Y E σ 0 LC) H → va_S (AF E LC.length s.heap.size) s.heap H locs → lv_has ls 5 [(0, .ref (E 4)), (1, .long v1), (3, .int v3), (4, .int v4)] → WI p l e rm_X1_commandNamed s m args below meth c LC Y D E o H locs (F0 m 5 ls [])) : ∀ (v1 : Int64) (v3 : Int32) (v4 : Int32) (σ : Sta) (H : Heap) (locs : List Loc) (ls : Array Slot), f_X1_commandNamed_55 k5 v1 v3 v4 σ = some o → va_P D vwCl (wd Y E σ 0 LC) H → va_S (AF E LC.length s.heap.size) s.heap H locs → lv_has ls 5 [(0, .ref (E 4)), (1, .long v1), (3, .int v3), (4, .int v4)] → WI p l e rm_X1_commandNamed s m args below meth c LC Y D E o H locs (F0 m 55 ls []) := by
  intro v1 v3 v4 σ H locs ls h hP hS hl
  unfold f_X1_commandNamed_55 at h
  obtain ⟨hC, hb, hml, hr, hlk, hD, hSW⟩ := id hF
  have hx := hC.1
  obtain ⟨x1, ex1⟩ : ∃ y : Int32, y = v4 + 1 := ⟨_, rfl⟩
  have h := of_lt h ex1
  refine lv_iinc (v := x1) (lv' := [(4, .int x1), (0, .ref (E 4)), (1, .long v1), (3, .int v3)]) hx hb dX1_commandNamed_55 hl (k := 3) rfl (by rw [ex1]; rfl) (by decide) rfl (fun ls hl => ?_)
  refine lv_goto (tgt := 5) hx hb dX1_commandNamed_58 (by decide) ?_
  exact hk5 v1 v3 x1 σ _ _ _ h hP hS (lv_sub hl [1, 2, 3, 0] rfl)

def f_X1_commandNamed_5 : Nat → Int64 → Int32 → Int32 → Sta → Option (Int32 × Sta)
  | 0, _, _, _, _ => none
  | n + 1, v1, v3, v4, σ => if gI σ 67 ≤ v4 + 1 then
      some (-1, σ)
    else
      bnd (f_X7_kindOf v4 σ) (fun r2 σ3 =>
      if r2 = 262 then
        bnd (f_X7_contentOf (v4 + 1) σ3) (fun r6 σ7 =>
        if lg_cmp r6 v1 = 0 then
          some (v3, σ7)
        else
          lt (v3 + 1) (fun x10 =>
          f_X1_commandNamed_55 (f_X1_commandNamed_5 n) v1 x10 v4 σ7))
      else
        f_X1_commandNamed_55 (f_X1_commandNamed_5 n) v1 v3 v4 σ3)
set_option maxHeartbeats 4000000 in
set_option maxRecDepth 100000 in
theorem t_X1_commandNamed_5 {l : Launch} {D : va_G} {Y : CYs} {E : Nat → Nat} {p : Program} {e : Env} {s : State} {m : MethodId} {args : Array Value} {below : List Frame} {meth : Method} {c : Code} (hF : Fr p s m args meth c RX1 cX1_commandNamed 5 (some .int) D Y E LC) {o : Int32 × Sta} : ∀ (n : Nat) (v1 : Int64) (v3 : Int32) (v4 : Int32) (σ : Sta) (H : Heap) (locs : List Loc) (ls : Array Slot), f_X1_commandNamed_5 n v1 v3 v4 σ = some o → va_P D vwCl (wd Y E σ 0 LC) H → va_S (AF E LC.length s.heap.size) s.heap H locs → lv_has ls 5 [(0, .ref (E 4)), (1, .long v1), (3, .int v3), (4, .int v4)] → WI p l e rm_X1_commandNamed s m args below meth c LC Y D E o H locs (F0 m 5 ls []) := by
  intro n
  induction n with
  | zero =>
    intro v1 v3 v4 σ H locs ls h hP hS hl
    exact nomatch (show (none : Option (Int32 × Sta)) = some o from h)
  | succ n ih =>
    intro v1 v3 v4 σ H locs ls h hP hS hl
    rw [f_X1_commandNamed_5] at h
    obtain ⟨hC, hb, hml, hr, hlk, hD, hSW⟩ := id hF
    have hx := hC.1
    refine lv_iload hx hb dX1_commandNamed_5 (lv_at hl 3 rfl) ?_
    refine lv_iconst (v := 1) hx hb dX1_commandNamed_7 (by decide) ?_
    refine lv_iadd hx hb dX1_commandNamed_8 ?_
    refine lv_aload_n hx hb dX1_commandNamed_9 rfl (lv_at hl 0 rfl) ?_
    refine gf_X1_9 hC hb hP dX1_commandNamed_10 ?_
    refine gf_X1_73 hC hb hP dX1_commandNamed_13 ?_
    refine lv_icmp_ge (tgt := 61) hx hb dX1_commandNamed_16 (by decide) (fun c1 => ?_) (fun c1 => ?_)
    · have h := of_t h c1
      refine lv_iconst (v := -1) hx hb dX1_commandNamed_61 (by decide) ?_
      exact x_iret hF hP hS h dX1_commandNamed_62
    · have h := of_f h c1
      refine lv_aload_n hx hb dX1_commandNamed_19 rfl (lv_at hl 0 rfl) ?_
      refine gf_X1_9 hC hb hP dX1_commandNamed_20 ?_
      refine lv_iload hx hb dX1_commandNamed_23 (lv_at hl 3 rfl) ?_
      obtain ⟨r2, σ3, g4, h⟩ := of_bnd h
      refine x_VI (As := [.int v4]) (rest := []) hF hl hP hS (c_X7_kindOf g4) (cw_X1_167 hC rfl rfl ⟨Nat.le_of_ble_eq_true rfl, Nat.le_of_ble_eq_true rfl⟩) lc_1 rfl rfl rfl (Nat.le_of_ble_eq_true rfl) dX1_commandNamed_25 ⟨Nat.zero_le _, Nat.zero_le _⟩ (fun H locs hP hS => ?_)
      refine lv_sipush (v := 262) hx hb dX1_commandNamed_28 (by decide) ?_
      refine lv_icmp_ne (tgt := 55) hx hb dX1_commandNamed_31 (by decide) (fun c5 => ?_) (fun c5 => ?_)
      · have h := of_f h c5
        exact t_X1_commandNamed_55  hF (f_X1_commandNamed_5 n) ih v1 v3 v4 σ3 _ _ _ h hP hS (lv_sub hl [0, 1, 2, 3] rfl)
      · have h := of_t h c5
        refine lv_aload_n hx hb dX1_commandNamed_34 rfl (lv_at hl 0 rfl) ?_
        refine gf_X1_9 hC hb hP dX1_commandNamed_35 ?_
        refine lv_iload hx hb dX1_commandNamed_38 (lv_at hl 3 rfl) ?_
        refine lv_iconst (v := 1) hx hb dX1_commandNamed_40 (by decide) ?_
        refine lv_iadd hx hb dX1_commandNamed_41 ?_
        obtain ⟨r6, σ7, g8, h⟩ := of_bnd h
        refine x_VL (As := [.int (v4 + 1)]) (rest := []) hF hl hP hS (c_X7_contentOf g8) (cw_X1_107 hC rfl rfl ⟨Nat.le_of_ble_eq_true rfl, Nat.le_of_ble_eq_true rfl⟩) lc_1 rfl rfl rfl (Nat.le_of_ble_eq_true rfl) dX1_commandNamed_42 ⟨Nat.zero_le _, Nat.zero_le _⟩ (fun H locs hP hS => ?_)
        refine lv_lload_n hx hb dX1_commandNamed_45 rfl (lv_at hl 1 rfl) ?_
        refine W.lcmp hx hb dX1_commandNamed_46 ?_
        refine lv_if_ne (tgt := 52) hx hb dX1_commandNamed_47 (by decide) (fun c9 => ?_) (fun c9 => ?_)
        · have h := of_f h c9
          obtain ⟨x10, ex10⟩ : ∃ y : Int32, y = v3 + 1 := ⟨_, rfl⟩
          have h := of_lt h ex10
          refine lv_iinc (v := x10) (lv' := [(3, .int x10), (0, .ref (E 4)), (1, .long v1), (4, .int v4)]) hx hb dX1_commandNamed_52 hl (k := 2) rfl (by rw [ex10]; rfl) (by decide) rfl (fun ls hl => ?_)
          exact t_X1_commandNamed_55  hF (f_X1_commandNamed_5 n) ih v1 x10 v4 σ7 _ _ _ h hP hS (lv_sub hl [1, 2, 0, 3] rfl)
        · have h := of_t h c9
          refine lv_iload_n hx hb dX1_commandNamed_50 rfl (lv_at hl 2 rfl) ?_
          exact x_iret hF hP hS h dX1_commandNamed_51

def f_X1_commandNamed (a1 : Int64) (σ : Sta) : Option (Int32 × Sta) :=
  f_X1_commandNamed_5 FU a1 0 0 σ
set_option maxHeartbeats 4000000 in
set_option maxRecDepth 100000 in
theorem c_X1_commandNamed {l : Launch} {D : va_G} {Y : CYs} {E : Nat → Nat} {a1 : Int64} {σ : Sta} {o : Int32 × Sta} (h : f_X1_commandNamed a1 σ = some o) : MI l yX1_commandNamed (Cond.code yX1_commandNamed cX1_commandNamed 5 (some .int) :: gW) rm_X1_commandNamed LC Y D E [.ref (E 4), .long a1] σ o := by
  intro sz
  refine Met_of (Qc := fun sz => QI LC Y D E sz o) (by decide) (Nat.le_of_ble_eq_true rfl) (fun p e s m args below meth c hF hP ls hl => ?_) sz
  have hS : va_S (AF E LC.length s.heap.size) s.heap s.heap [] := va_S.rf
  have hl : lv_has ls 5 [(0, .ref (E 4)), (1, .long a1)] := hl
  show WI p l e rm_X1_commandNamed s m args below meth c LC Y D E o s.heap [] (F0 m 0 ls [])
  unfold f_X1_commandNamed at h
  obtain ⟨hC, hb, hml, hr, hlk, hD, hSW⟩ := id hF
  have hx := hC.1
  refine lv_iconst (v := 0) hx hb dX1_commandNamed_0 (by decide) ?_
  refine lv_istore_n (lv' := [(3, .int 0), (0, .ref (E 4)), (1, .long a1)]) hx hb dX1_commandNamed_1 rfl hl (by decide) rfl (fun ls hl => ?_)
  refine lv_iconst (v := 0) hx hb dX1_commandNamed_2 (by decide) ?_
  refine lv_istore (lv' := [(4, .int 0), (3, .int 0), (0, .ref (E 4)), (1, .long a1)]) hx hb dX1_commandNamed_3 hl (by decide) rfl (fun ls hl => ?_)
  exact t_X1_commandNamed_5  hF FU a1 0 0 σ _ _ _ h hP hS (lv_sub hl [2, 3, 1, 0] rfl)

abbrev rm_X1_acceptDeeper : Room := { frames := 1, cells := 0, slots := 0, locals := 22 }
def f_X1_acceptDeeper_14 (σ : Sta) : Option (Int32 × Sta) :=
  bnd (f_X1_fail 1 (gI σ 260) σ) (fun _ σ2 =>
  some (0, σ2))
set_option maxHeartbeats 4000000 in
set_option maxRecDepth 100000 in
theorem t_X1_acceptDeeper_14 {l : Launch} {D : va_G} {Y : CYs} {E : Nat → Nat} {p : Program} {e : Env} {s : State} {m : MethodId} {args : Array Value} {below : List Frame} {meth : Method} {c : Code} (hF : Fr p s m args meth c RX1 cX1_acceptDeeper 3 (some .boolean) D Y E LC) {o : Int32 × Sta} : ∀ (σ : Sta) (H : Heap) (locs : List Loc) (ls : Array Slot), f_X1_acceptDeeper_14 σ = some o → va_P D vwCl (wd Y E σ 0 LC) H → va_S (AF E LC.length s.heap.size) s.heap H locs → lv_has ls 3 [(0, .ref (E 4))] → WI p l e rm_X1_acceptDeeper s m args below meth c LC Y D E o H locs (F0 m 14 ls []) := by
  intro σ H locs ls h hP hS hl
  unfold f_X1_acceptDeeper_14 at h
  obtain ⟨hC, hb, hml, hr, hlk, hD, hSW⟩ := id hF
  have hx := hC.1
  refine lv_aload_n hx hb dX1_acceptDeeper_14 rfl (lv_at hl 0 rfl) ?_
  refine lv_iconst (v := 1) hx hb dX1_acceptDeeper_15 (by decide) ?_
  refine lv_aload_n hx hb dX1_acceptDeeper_16 rfl (lv_at hl 0 rfl) ?_
  refine gf_X1_43 hC hb hP dX1_acceptDeeper_17 ?_
  obtain ⟨r1, σ2, g3, h⟩ := of_bnd h
  refine x_VV (As := [.int 1, .int (gI σ 260)]) (rest := []) hF hl hP hS (c_X1_fail g3) (cw_X1_47 hC rfl rfl ⟨Nat.le_of_ble_eq_true rfl, Nat.le_of_ble_eq_true rfl⟩) lc_4 rfl rfl rfl (Nat.le_of_ble_eq_true rfl) dX1_acceptDeeper_20 ⟨Nat.zero_le _, Nat.zero_le _⟩ (fun H locs hP hS => ?_)
  refine lv_iconst (v := 0) hx hb dX1_acceptDeeper_23 (by decide) ?_
  exact x_zret hF hP hS rfl h dX1_acceptDeeper_24

def f_X1_acceptDeeper (a1 : Int32) (a2 : Int32) (σ : Sta) : Option (Int32 × Sta) :=
  bnd (f_X1_look σ) (fun r1 σ2 =>
  if r1 = a1 then
    if a2 < 8 then
      lt (sI σ2 260 ((gI σ2 260) + 1)) (fun σ6 =>
      some (1, σ6))
    else
      f_X1_acceptDeeper_14 σ2
  else
    f_X1_acceptDeeper_14 σ2)
set_option maxHeartbeats 4000000 in
set_option maxRecDepth 100000 in
theorem c_X1_acceptDeeper {l : Launch} {D : va_G} {Y : CYs} {E : Nat → Nat} {a1 : Int32} {a2 : Int32} {σ : Sta} {o : Int32 × Sta} (h : f_X1_acceptDeeper a1 a2 σ = some o) : MI l yX1_acceptDeeper (Cond.code yX1_acceptDeeper cX1_acceptDeeper 3 (some .boolean) :: gW) rm_X1_acceptDeeper LC Y D E [.ref (E 4), .int a1, .int a2] σ o := by
  intro sz
  refine Met_of (Qc := fun sz => QI LC Y D E sz o) (by decide) (Nat.le_of_ble_eq_true rfl) (fun p e s m args below meth c hF hP ls hl => ?_) sz
  have hS : va_S (AF E LC.length s.heap.size) s.heap s.heap [] := va_S.rf
  have hl : lv_has ls 3 [(0, .ref (E 4)), (1, .int a1), (2, .int a2)] := hl
  show WI p l e rm_X1_acceptDeeper s m args below meth c LC Y D E o s.heap [] (F0 m 0 ls [])
  unfold f_X1_acceptDeeper at h
  obtain ⟨hC, hb, hml, hr, hlk, hD, hSW⟩ := id hF
  have hx := hC.1
  refine lv_aload_n hx hb dX1_acceptDeeper_0 rfl (lv_at hl 0 rfl) ?_
  obtain ⟨r1, σ2, g3, h⟩ := of_bnd h
  refine x_VI (As := []) (rest := []) hF hl hP hS (c_X1_look g3) (cw_X1_27 hC rfl rfl ⟨Nat.le_of_ble_eq_true rfl, Nat.le_of_ble_eq_true rfl⟩) lc_4 rfl rfl rfl (Nat.le_of_ble_eq_true rfl) dX1_acceptDeeper_1 ⟨Nat.zero_le _, Nat.zero_le _⟩ (fun H locs hP hS => ?_)
  refine lv_iload_n hx hb dX1_acceptDeeper_4 rfl (lv_at hl 1 rfl) ?_
  refine lv_icmp_ne (tgt := 14) hx hb dX1_acceptDeeper_5 (by decide) (fun c4 => ?_) (fun c4 => ?_)
  · have h := of_f h c4
    exact t_X1_acceptDeeper_14  hF σ2 _ _ _ h hP hS (lv_sub hl [0] rfl)
  · have h := of_t h c4
    refine lv_iload_n hx hb dX1_acceptDeeper_8 rfl (lv_at hl 2 rfl) ?_
    refine lv_bipush (v := 8) hx hb dX1_acceptDeeper_9 (by decide) ?_
    refine lv_icmp_lt (tgt := 25) hx hb dX1_acceptDeeper_11 (by decide) (fun c5 => ?_) (fun c5 => ?_)
    · have h := of_t h c5
      refine lv_aload_n hx hb dX1_acceptDeeper_25 rfl (lv_at hl 0 rfl) ?_
      refine lv_dup hx hb dX1_acceptDeeper_26 rfl ?_
      refine gf_X1_43 hC hb hP dX1_acceptDeeper_27 ?_
      refine lv_iconst (v := 1) hx hb dX1_acceptDeeper_30 (by decide) ?_
      refine lv_iadd hx hb dX1_acceptDeeper_31 ?_
      refine pf_X1_43 hC hb hP hD hS dX1_acceptDeeper_32 (fun H locs σ6 eσ6 hP hS => ?_)
      have h := of_lt h eσ6
      refine lv_iconst (v := 1) hx hb dX1_acceptDeeper_35 (by decide) ?_
      exact x_zret hF hP hS rfl h dX1_acceptDeeper_36
    · have h := of_f h c5
      exact t_X1_acceptDeeper_14  hF σ2 _ _ _ h hP hS (lv_sub hl [0] rfl)

abbrev rm_X1_levelOf : Room := { frames := 0, cells := 0, slots := 0, locals := 0 }
def f_X1_levelOf (a0 : Int32) (σ : Sta) : Option (Int32 × Sta) :=
  if a0 = 37 then
    some (4, σ)
  else if a0 = 42 then
    some (4, σ)
  else if a0 = 43 then
    some (3, σ)
  else if a0 = 45 then
    some (3, σ)
  else if a0 = 47 then
    some (4, σ)
  else if a0 = 60 then
    some (2, σ)
  else if a0 = 61 then
    some (2, σ)
  else if a0 = 62 then
    some (2, σ)
  else if a0 = 267 then
    some (1, σ)
  else if a0 = 268 then
    some (0, σ)
  else if a0 = 275 then
    some (2, σ)
  else if a0 = 276 then
    some (2, σ)
  else if a0 = 277 then
    some (2, σ)
  else 
    some (-1, σ)
set_option maxHeartbeats 4000000 in
set_option maxRecDepth 100000 in
theorem c_X1_levelOf {l : Launch} {D : va_G} {Y : CYs} {E : Nat → Nat} {a0 : Int32} {σ : Sta} {o : Int32 × Sta} (h : f_X1_levelOf a0 σ = some o) : MI l yX1_levelOf (Cond.code yX1_levelOf cX1_levelOf 1 (some .int) :: gW) rm_X1_levelOf LC Y D E [.int a0] σ o := by
  intro sz
  refine Met_of (Qc := fun sz => QI LC Y D E sz o) (by decide) (Nat.le_of_ble_eq_true rfl) (fun p e s m args below meth c hF hP ls hl => ?_) sz
  have hS : va_S (AF E LC.length s.heap.size) s.heap s.heap [] := va_S.rf
  have hl : lv_has ls 1 [(0, .int a0)] := hl
  show WI p l e rm_X1_levelOf s m args below meth c LC Y D E o s.heap [] (F0 m 0 ls [])
  unfold f_X1_levelOf at h
  obtain ⟨hC, hb, hml, hr, hlk, hD, hSW⟩ := id hF
  have hx := hC.1
  refine lv_iload_n hx hb dX1_levelOf_0 rfl (lv_at hl 0 rfl) ?_
  by_cases c1 : a0 = 37
  · have h := of_t h c1
    refine lv_lookup (tgt := 124) hx hb dX1_levelOf_1 (by decide) (by rw [c1]; try rfl) (by decide) ?_
    refine lv_iconst (v := 4) hx hb dX1_levelOf_124 (by decide) ?_
    exact x_iret hF hP hS h dX1_levelOf_125
  · have h := of_f h c1
    by_cases c2 : a0 = 42
    · have h := of_t h c2
      refine lv_lookup (tgt := 124) hx hb dX1_levelOf_1 (by decide) (by rw [c2]; try rfl) (by decide) ?_
      refine lv_iconst (v := 4) hx hb dX1_levelOf_124 (by decide) ?_
      exact x_iret hF hP hS h dX1_levelOf_125
    · have h := of_f h c2
      by_cases c3 : a0 = 43
      · have h := of_t h c3
        refine lv_lookup (tgt := 122) hx hb dX1_levelOf_1 (by decide) (by rw [c3]; try rfl) (by decide) ?_
        refine lv_iconst (v := 3) hx hb dX1_levelOf_122 (by decide) ?_
        exact x_iret hF hP hS h dX1_levelOf_123
      · have h := of_f h c3
        by_cases c4 : a0 = 45
        · have h := of_t h c4
          refine lv_lookup (tgt := 122) hx hb dX1_levelOf_1 (by decide) (by rw [c4]; try rfl) (by decide) ?_
          refine lv_iconst (v := 3) hx hb dX1_levelOf_122 (by decide) ?_
          exact x_iret hF hP hS h dX1_levelOf_123
        · have h := of_f h c4
          by_cases c5 : a0 = 47
          · have h := of_t h c5
            refine lv_lookup (tgt := 124) hx hb dX1_levelOf_1 (by decide) (by rw [c5]; try rfl) (by decide) ?_
            refine lv_iconst (v := 4) hx hb dX1_levelOf_124 (by decide) ?_
            exact x_iret hF hP hS h dX1_levelOf_125
          · have h := of_f h c5
            by_cases c6 : a0 = 60
            · have h := of_t h c6
              refine lv_lookup (tgt := 120) hx hb dX1_levelOf_1 (by decide) (by rw [c6]; try rfl) (by decide) ?_
              refine lv_iconst (v := 2) hx hb dX1_levelOf_120 (by decide) ?_
              exact x_iret hF hP hS h dX1_levelOf_121
            · have h := of_f h c6
              by_cases c7 : a0 = 61
              · have h := of_t h c7
                refine lv_lookup (tgt := 120) hx hb dX1_levelOf_1 (by decide) (by rw [c7]; try rfl) (by decide) ?_
                refine lv_iconst (v := 2) hx hb dX1_levelOf_120 (by decide) ?_
                exact x_iret hF hP hS h dX1_levelOf_121
              · have h := of_f h c7
                by_cases c8 : a0 = 62
                · have h := of_t h c8
                  refine lv_lookup (tgt := 120) hx hb dX1_levelOf_1 (by decide) (by rw [c8]; try rfl) (by decide) ?_
                  refine lv_iconst (v := 2) hx hb dX1_levelOf_120 (by decide) ?_
                  exact x_iret hF hP hS h dX1_levelOf_121
                · have h := of_f h c8
                  by_cases c9 : a0 = 267
                  · have h := of_t h c9
                    refine lv_lookup (tgt := 118) hx hb dX1_levelOf_1 (by decide) (by rw [c9]; try rfl) (by decide) ?_
                    refine lv_iconst (v := 1) hx hb dX1_levelOf_118 (by decide) ?_
                    exact x_iret hF hP hS h dX1_levelOf_119
                  · have h := of_f h c9
                    by_cases c10 : a0 = 268
                    · have h := of_t h c10
                      refine lv_lookup (tgt := 116) hx hb dX1_levelOf_1 (by decide) (by rw [c10]; try rfl) (by decide) ?_
                      refine lv_iconst (v := 0) hx hb dX1_levelOf_116 (by decide) ?_
                      exact x_iret hF hP hS h dX1_levelOf_117
                    · have h := of_f h c10
                      by_cases c11 : a0 = 275
                      · have h := of_t h c11
                        refine lv_lookup (tgt := 120) hx hb dX1_levelOf_1 (by decide) (by rw [c11]; try rfl) (by decide) ?_
                        refine lv_iconst (v := 2) hx hb dX1_levelOf_120 (by decide) ?_
                        exact x_iret hF hP hS h dX1_levelOf_121
                      · have h := of_f h c11
                        by_cases c12 : a0 = 276
                        · have h := of_t h c12
                          refine lv_lookup (tgt := 120) hx hb dX1_levelOf_1 (by decide) (by rw [c12]; try rfl) (by decide) ?_
                          refine lv_iconst (v := 2) hx hb dX1_levelOf_120 (by decide) ?_
                          exact x_iret hF hP hS h dX1_levelOf_121
                        · have h := of_f h c12
                          by_cases c13 : a0 = 277
                          · have h := of_t h c13
                            refine lv_lookup (tgt := 120) hx hb dX1_levelOf_1 (by decide) (by rw [c13]; try rfl) (by decide) ?_
                            refine lv_iconst (v := 2) hx hb dX1_levelOf_120 (by decide) ?_
                            exact x_iret hF hP hS h dX1_levelOf_121
                          · have h := of_f h c13
                            refine lv_lookup (off := 125) (tgt := 126) hx hb dX1_levelOf_1 (by decide) (by rw [lv_osw c1 (by decide), lv_osw c2 (by decide), lv_osw c3 (by decide), lv_osw c4 (by decide), lv_osw c5 (by decide), lv_osw c6 (by decide), lv_osw c7 (by decide), lv_osw c8 (by decide), lv_osw c9 (by decide), lv_osw c10 (by decide), lv_osw c11 (by decide), lv_osw c12 (by decide), lv_osw c13 (by decide)]; try rfl) (by decide) ?_
                            refine lv_iconst (v := -1) hx hb dX1_levelOf_126 (by decide) ?_
                            exact x_iret hF hP hS h dX1_levelOf_127

abbrev rm_X1R (d : Nat) : Room := { frames := d + 2, cells := 0, slots := 0, locals := 40 * d + 46 }

def f_X1_readLevel_95 (r_X1_readLevel : Int32 → Int32 → Sta → Option (Unit × Sta)) (r_X1_readFactor : Int32 → Sta → Option (Unit × Sta)) (r_X1_readBracket : Int32 → Int32 → Sta → Option (Unit × Sta)) (σ : Sta) : Option (Unit × Sta) :=
  some ((), σ)
set_option maxHeartbeats 4000000 in
set_option maxRecDepth 100000 in
theorem t_X1_readLevel_95 {l : Launch} {D : va_G} {Y : CYs} {E : Nat → Nat} {p : Program} {e : Env} {s : State} {m : MethodId} {args : Array Value} {below : List Frame} {meth : Method} {c : Code} {r_X1_readLevel : Int32 → Int32 → Sta → Option (Unit × Sta)} {r_X1_readFactor : Int32 → Sta → Option (Unit × Sta)} {r_X1_readBracket : Int32 → Int32 → Sta → Option (Unit × Sta)} {dd : Nat} (hr_X1_readLevel : ∀ (a1 : Int32) (a2 : Int32) (σ : Sta) (o : Unit × Sta), r_X1_readLevel a1 a2 σ = some o → MV l yX1_readLevel (Cond.code yX1_readLevel cX1_readLevel 6 none :: gW) (rm_X1R dd) LC Y D E [.ref (E 4), .int a1, .int a2] σ o) (hr_X1_readFactor : ∀ (a1 : Int32) (σ : Sta) (o : Unit × Sta), r_X1_readFactor a1 σ = some o → MV l yX1_readFactor (Cond.code yX1_readFactor cX1_readFactor 4 none :: gW) (rm_X1R dd) LC Y D E [.ref (E 4), .int a1] σ o) (hr_X1_readBracket : ∀ (a1 : Int32) (a2 : Int32) (σ : Sta) (o : Unit × Sta), r_X1_readBracket a1 a2 σ = some o → MV l yX1_readBracket (Cond.code yX1_readBracket cX1_readBracket 4 none :: gW) (rm_X1R dd) LC Y D E [.ref (E 4), .int a1, .int a2] σ o) (hF : Fr p s m args meth c RX1 cX1_readLevel 6 none D Y E LC) {o : Unit × Sta} : ∀ (σ : Sta) (H : Heap) (locs : List Loc) (ls : Array Slot), f_X1_readLevel_95 r_X1_readLevel r_X1_readFactor r_X1_readBracket σ = some o → va_P D vwCl (wd Y E σ 0 LC) H → va_S (AF E LC.length s.heap.size) s.heap H locs → lv_has ls 6 [] → WV p l e (rm_X1R (dd + 1)) s m args below meth c LC Y D E o H locs (F0 m 95 ls []) := by
  intro σ H locs ls h hP hS hl
  unfold f_X1_readLevel_95 at h
  obtain ⟨hC, hb, hml, hr, hlk, hD, hSW⟩ := id hF
  have hx := hC.1
  exact x_vret hF hP hS h dX1_readLevel_95

def f_X1_readLevel_40 (r_X1_readLevel : Int32 → Int32 → Sta → Option (Unit × Sta)) (r_X1_readFactor : Int32 → Sta → Option (Unit × Sta)) (r_X1_readBracket : Int32 → Int32 → Sta → Option (Unit × Sta)) : Nat → Int32 → Int32 → Int32 → Int32 → Int32 → Sta → Option (Unit × Sta)
  | 0, _, _, _, _, _, _ => none
  | n + 1, v1, v2, v3, v4, v5, σ => if v3 ≤ v5 then
      f_X1_readLevel_95 r_X1_readLevel r_X1_readFactor r_X1_readBracket σ
    else
      bnd (f_X1_levelOf v4 σ) (fun r2 σ3 =>
      if r2 = v1 then
        lt (sI σ3 260 ((gI σ3 260) + 1)) (fun σ6 =>
        bnd (r_X1_readLevel (v1 + 1) v2 σ6) (fun _ σ8 =>
        bnd (f_X0_add v4 0 σ8) (fun _ σ11 =>
        bnd (f_X1_look σ11) (fun r13 σ14 =>
        lt (v5 + 1) (fun x16 =>
        f_X1_readLevel_40 r_X1_readLevel r_X1_readFactor r_X1_readBracket n v1 v2 v3 r13 x16 σ14)))))
      else
        f_X1_readLevel_95 r_X1_readLevel r_X1_readFactor r_X1_readBracket σ3)
set_option maxHeartbeats 4000000 in
set_option maxRecDepth 100000 in
theorem t_X1_readLevel_40 {l : Launch} {D : va_G} {Y : CYs} {E : Nat → Nat} {p : Program} {e : Env} {s : State} {m : MethodId} {args : Array Value} {below : List Frame} {meth : Method} {c : Code} {r_X1_readLevel : Int32 → Int32 → Sta → Option (Unit × Sta)} {r_X1_readFactor : Int32 → Sta → Option (Unit × Sta)} {r_X1_readBracket : Int32 → Int32 → Sta → Option (Unit × Sta)} {dd : Nat} (hr_X1_readLevel : ∀ (a1 : Int32) (a2 : Int32) (σ : Sta) (o : Unit × Sta), r_X1_readLevel a1 a2 σ = some o → MV l yX1_readLevel (Cond.code yX1_readLevel cX1_readLevel 6 none :: gW) (rm_X1R dd) LC Y D E [.ref (E 4), .int a1, .int a2] σ o) (hr_X1_readFactor : ∀ (a1 : Int32) (σ : Sta) (o : Unit × Sta), r_X1_readFactor a1 σ = some o → MV l yX1_readFactor (Cond.code yX1_readFactor cX1_readFactor 4 none :: gW) (rm_X1R dd) LC Y D E [.ref (E 4), .int a1] σ o) (hr_X1_readBracket : ∀ (a1 : Int32) (a2 : Int32) (σ : Sta) (o : Unit × Sta), r_X1_readBracket a1 a2 σ = some o → MV l yX1_readBracket (Cond.code yX1_readBracket cX1_readBracket 4 none :: gW) (rm_X1R dd) LC Y D E [.ref (E 4), .int a1, .int a2] σ o) (hF : Fr p s m args meth c RX1 cX1_readLevel 6 none D Y E LC) {o : Unit × Sta} : ∀ (n : Nat) (v1 : Int32) (v2 : Int32) (v3 : Int32) (v4 : Int32) (v5 : Int32) (σ : Sta) (H : Heap) (locs : List Loc) (ls : Array Slot), f_X1_readLevel_40 r_X1_readLevel r_X1_readFactor r_X1_readBracket n v1 v2 v3 v4 v5 σ = some o → va_P D vwCl (wd Y E σ 0 LC) H → va_S (AF E LC.length s.heap.size) s.heap H locs → lv_has ls 6 [(0, .ref (E 4)), (1, .int v1), (2, .int v2), (3, .int v3), (4, .int v4), (5, .int v5)] → WV p l e (rm_X1R (dd + 1)) s m args below meth c LC Y D E o H locs (F0 m 40 ls []) := by
  intro n
  induction n with
  | zero =>
    intro v1 v2 v3 v4 v5 σ H locs ls h hP hS hl
    exact nomatch (show (none : Option (Unit × Sta)) = some o from h)
  | succ n ih =>
    intro v1 v2 v3 v4 v5 σ H locs ls h hP hS hl
    rw [f_X1_readLevel_40] at h
    obtain ⟨hC, hb, hml, hr, hlk, hD, hSW⟩ := id hF
    have hx := hC.1
    refine lv_iload hx hb dX1_readLevel_40 (lv_at hl 5 rfl) ?_
    refine lv_iload_n hx hb dX1_readLevel_42 rfl (lv_at hl 3 rfl) ?_
    refine lv_icmp_ge (tgt := 95) hx hb dX1_readLevel_43 (by decide) (fun c1 => ?_) (fun c1 => ?_)
    · have h := of_t h c1
      exact t_X1_readLevel_95  hr_X1_readLevel hr_X1_readFactor hr_X1_readBracket hF σ _ _ _ h hP hS (lv_sub hl [] rfl)
    · have h := of_f h c1
      refine lv_iload hx hb dX1_readLevel_46 (lv_at hl 4 rfl) ?_
      obtain ⟨r2, σ3, g4, h⟩ := of_bnd h
      refine x_SI (As := [.int v4]) (rest := []) hF hl hP hS (c_X1_levelOf g4) (cw_X1_185 hC rfl rfl ⟨by dsimp only [rm_X1R, rm_X1_levelOf]; omega, by dsimp only [rm_X1R, rm_X1_levelOf]; omega⟩) rfl rfl (Nat.le_of_ble_eq_true rfl) dX1_readLevel_48 ⟨Nat.zero_le _, Nat.zero_le _⟩ (fun H locs hP hS => ?_)
      refine lv_iload_n hx hb dX1_readLevel_51 rfl (lv_at hl 1 rfl) ?_
      refine lv_icmp_ne (tgt := 95) hx hb dX1_readLevel_52 (by decide) (fun c5 => ?_) (fun c5 => ?_)
      · have h := of_f h c5
        exact t_X1_readLevel_95  hr_X1_readLevel hr_X1_readFactor hr_X1_readBracket hF σ3 _ _ _ h hP hS (lv_sub hl [] rfl)
      · have h := of_t h c5
        refine lv_aload_n hx hb dX1_readLevel_55 rfl (lv_at hl 0 rfl) ?_
        refine lv_dup hx hb dX1_readLevel_56 rfl ?_
        refine gf_X1_43 hC hb hP dX1_readLevel_57 ?_
        refine lv_iconst (v := 1) hx hb dX1_readLevel_60 (by decide) ?_
        refine lv_iadd hx hb dX1_readLevel_61 ?_
        refine pf_X1_43 hC hb hP hD hS dX1_readLevel_62 (fun H locs σ6 eσ6 hP hS => ?_)
        have h := of_lt h eσ6
        refine lv_aload_n hx hb dX1_readLevel_65 rfl (lv_at hl 0 rfl) ?_
        refine lv_iload_n hx hb dX1_readLevel_66 rfl (lv_at hl 1 rfl) ?_
        refine lv_iconst (v := 1) hx hb dX1_readLevel_67 (by decide) ?_
        refine lv_iadd hx hb dX1_readLevel_68 ?_
        refine lv_iload_n hx hb dX1_readLevel_69 rfl (lv_at hl 2 rfl) ?_
        obtain ⟨r7, σ8, g9, h⟩ := of_bnd h
        refine x_VV (As := [.int (v1 + 1), .int v2]) (rest := []) hF hl hP hS (hr_X1_readLevel _ _ _ _ g9) (cw_X1_179 hC rfl rfl ⟨by dsimp only [rm_X1R, rm_X1R]; omega, by dsimp only [rm_X1R, rm_X1R]; omega⟩) lc_4 rfl rfl rfl (Nat.le_of_ble_eq_true rfl) dX1_readLevel_70 ⟨Nat.zero_le _, Nat.zero_le _⟩ (fun H locs hP hS => ?_)
        refine lv_aload_n hx hb dX1_readLevel_73 rfl (lv_at hl 0 rfl) ?_
        refine gf_X1_15 hC hb hP dX1_readLevel_74 ?_
        refine lv_iload hx hb dX1_readLevel_77 (lv_at hl 4 rfl) ?_
        refine lv_lconst (v := 0) hx hb dX1_readLevel_79 (by decide) ?_
        obtain ⟨r10, σ11, g12, h⟩ := of_bnd h
        refine x_VV (As := [.int v4, .long 0]) (rest := []) hF hl hP hS (c_X0_add g12) (cw_X1_188 hC rfl rfl ⟨by dsimp only [rm_X1R, rm_X0_add]; omega, by dsimp only [rm_X1R, rm_X0_add]; omega⟩) lc_2 rfl rfl rfl (Nat.le_of_ble_eq_true rfl) dX1_readLevel_80 ⟨Nat.zero_le _, Nat.zero_le _⟩ (fun H locs hP hS => ?_)
        refine lv_aload_n hx hb dX1_readLevel_83 rfl (lv_at hl 0 rfl) ?_
        obtain ⟨r13, σ14, g15, h⟩ := of_bnd h
        refine x_VI (As := []) (rest := []) hF hl hP hS (c_X1_look g15) (cw_X1_27 hC rfl rfl ⟨by dsimp only [rm_X1R, rm_X1_look]; omega, by dsimp only [rm_X1R, rm_X1_look]; omega⟩) lc_4 rfl rfl rfl (Nat.le_of_ble_eq_true rfl) dX1_readLevel_84 ⟨Nat.zero_le _, Nat.zero_le _⟩ (fun H locs hP hS => ?_)
        refine lv_istore (lv' := [(4, .int r13), (0, .ref (E 4)), (1, .int v1), (2, .int v2), (3, .int v3), (5, .int v5)]) hx hb dX1_readLevel_87 hl (by decide) rfl (fun ls hl => ?_)
        obtain ⟨x16, ex16⟩ : ∃ y : Int32, y = v5 + 1 := ⟨_, rfl⟩
        have h := of_lt h ex16
        refine lv_iinc (v := x16) (lv' := [(5, .int x16), (4, .int r13), (0, .ref (E 4)), (1, .int v1), (2, .int v2), (3, .int v3)]) hx hb dX1_readLevel_89 hl (k := 5) rfl (by rw [ex16]; rfl) (by decide) rfl (fun ls hl => ?_)
        refine lv_goto (tgt := 40) hx hb dX1_readLevel_92 (by decide) ?_
        exact ih v1 v2 v3 r13 x16 σ14 _ _ _ h hP hS (lv_sub hl [2, 3, 4, 5, 1, 0] rfl)

def f_X1_readLevel_30 (r_X1_readLevel : Int32 → Int32 → Sta → Option (Unit × Sta)) (r_X1_readFactor : Int32 → Sta → Option (Unit × Sta)) (r_X1_readBracket : Int32 → Int32 → Sta → Option (Unit × Sta)) (v1 : Int32) (v2 : Int32) (s0 : Int32) (σ : Sta) : Option (Unit × Sta) :=
  bnd (f_X1_look σ) (fun r1 σ2 =>
  f_X1_readLevel_40 r_X1_readLevel r_X1_readFactor r_X1_readBracket FU v1 v2 s0 r1 0 σ2)
set_option maxHeartbeats 4000000 in
set_option maxRecDepth 100000 in
theorem t_X1_readLevel_30 {l : Launch} {D : va_G} {Y : CYs} {E : Nat → Nat} {p : Program} {e : Env} {s : State} {m : MethodId} {args : Array Value} {below : List Frame} {meth : Method} {c : Code} {r_X1_readLevel : Int32 → Int32 → Sta → Option (Unit × Sta)} {r_X1_readFactor : Int32 → Sta → Option (Unit × Sta)} {r_X1_readBracket : Int32 → Int32 → Sta → Option (Unit × Sta)} {dd : Nat} (hr_X1_readLevel : ∀ (a1 : Int32) (a2 : Int32) (σ : Sta) (o : Unit × Sta), r_X1_readLevel a1 a2 σ = some o → MV l yX1_readLevel (Cond.code yX1_readLevel cX1_readLevel 6 none :: gW) (rm_X1R dd) LC Y D E [.ref (E 4), .int a1, .int a2] σ o) (hr_X1_readFactor : ∀ (a1 : Int32) (σ : Sta) (o : Unit × Sta), r_X1_readFactor a1 σ = some o → MV l yX1_readFactor (Cond.code yX1_readFactor cX1_readFactor 4 none :: gW) (rm_X1R dd) LC Y D E [.ref (E 4), .int a1] σ o) (hr_X1_readBracket : ∀ (a1 : Int32) (a2 : Int32) (σ : Sta) (o : Unit × Sta), r_X1_readBracket a1 a2 σ = some o → MV l yX1_readBracket (Cond.code yX1_readBracket cX1_readBracket 4 none :: gW) (rm_X1R dd) LC Y D E [.ref (E 4), .int a1, .int a2] σ o) (hF : Fr p s m args meth c RX1 cX1_readLevel 6 none D Y E LC) {o : Unit × Sta} : ∀ (v1 : Int32) (v2 : Int32) (s0 : Int32) (σ : Sta) (H : Heap) (locs : List Loc) (ls : Array Slot), f_X1_readLevel_30 r_X1_readLevel r_X1_readFactor r_X1_readBracket v1 v2 s0 σ = some o → va_P D vwCl (wd Y E σ 0 LC) H → va_S (AF E LC.length s.heap.size) s.heap H locs → lv_has ls 6 [(0, .ref (E 4)), (1, .int v1), (2, .int v2)] → WV p l e (rm_X1R (dd + 1)) s m args below meth c LC Y D E o H locs (F0 m 30 ls [.int s0]) := by
  intro v1 v2 s0 σ H locs ls h hP hS hl
  unfold f_X1_readLevel_30 at h
  obtain ⟨hC, hb, hml, hr, hlk, hD, hSW⟩ := id hF
  have hx := hC.1
  refine lv_istore_n (lv' := [(3, .int s0), (0, .ref (E 4)), (1, .int v1), (2, .int v2)]) hx hb dX1_readLevel_30 rfl hl (by decide) rfl (fun ls hl => ?_)
  refine lv_aload_n hx hb dX1_readLevel_31 rfl (lv_at hl 1 rfl) ?_
  obtain ⟨r1, σ2, g3, h⟩ := of_bnd h
  refine x_VI (As := []) (rest := []) hF hl hP hS (c_X1_look g3) (cw_X1_27 hC rfl rfl ⟨by dsimp only [rm_X1R, rm_X1_look]; omega, by dsimp only [rm_X1R, rm_X1_look]; omega⟩) lc_4 rfl rfl rfl (Nat.le_of_ble_eq_true rfl) dX1_readLevel_32 ⟨Nat.zero_le _, Nat.zero_le _⟩ (fun H locs hP hS => ?_)
  refine lv_istore (lv' := [(4, .int r1), (3, .int s0), (0, .ref (E 4)), (1, .int v1), (2, .int v2)]) hx hb dX1_readLevel_35 hl (by decide) rfl (fun ls hl => ?_)
  refine lv_iconst (v := 0) hx hb dX1_readLevel_37 (by decide) ?_
  refine lv_istore (lv' := [(5, .int 0), (4, .int r1), (3, .int s0), (0, .ref (E 4)), (1, .int v1), (2, .int v2)]) hx hb dX1_readLevel_38 hl (by decide) rfl (fun ls hl => ?_)
  exact t_X1_readLevel_40  hr_X1_readLevel hr_X1_readFactor hr_X1_readBracket hF FU v1 v2 s0 r1 0 σ2 _ _ _ h hP hS (lv_sub hl [3, 4, 5, 2, 1, 0] rfl)

def fb_X1_readLevel (r_X1_readLevel : Int32 → Int32 → Sta → Option (Unit × Sta)) (r_X1_readFactor : Int32 → Sta → Option (Unit × Sta)) (r_X1_readBracket : Int32 → Int32 → Sta → Option (Unit × Sta)) (a1 : Int32) (a2 : Int32) (σ : Sta) : Option (Unit × Sta) :=
  if a1 ≤ 4 then
    bnd (r_X1_readLevel (a1 + 1) a2 σ) (fun _ σ3 =>
    if a1 = 2 then
      f_X1_readLevel_30 r_X1_readLevel r_X1_readFactor r_X1_readBracket a1 a2 1 σ3
    else
      f_X1_readLevel_30 r_X1_readLevel r_X1_readFactor r_X1_readBracket a1 a2 60 σ3)
  else
    bnd (r_X1_readFactor a2 σ) (fun _ σ7 =>
    some ((), σ7))
set_option maxHeartbeats 4000000 in
set_option maxRecDepth 100000 in
theorem cb_X1_readLevel {l : Launch} {D : va_G} {Y : CYs} {E : Nat → Nat} {r_X1_readLevel : Int32 → Int32 → Sta → Option (Unit × Sta)} {r_X1_readFactor : Int32 → Sta → Option (Unit × Sta)} {r_X1_readBracket : Int32 → Int32 → Sta → Option (Unit × Sta)} {a1 : Int32} {a2 : Int32} {dd : Nat} (hr_X1_readLevel : ∀ (a1 : Int32) (a2 : Int32) (σ : Sta) (o : Unit × Sta), r_X1_readLevel a1 a2 σ = some o → MV l yX1_readLevel (Cond.code yX1_readLevel cX1_readLevel 6 none :: gW) (rm_X1R dd) LC Y D E [.ref (E 4), .int a1, .int a2] σ o) (hr_X1_readFactor : ∀ (a1 : Int32) (σ : Sta) (o : Unit × Sta), r_X1_readFactor a1 σ = some o → MV l yX1_readFactor (Cond.code yX1_readFactor cX1_readFactor 4 none :: gW) (rm_X1R dd) LC Y D E [.ref (E 4), .int a1] σ o) (hr_X1_readBracket : ∀ (a1 : Int32) (a2 : Int32) (σ : Sta) (o : Unit × Sta), r_X1_readBracket a1 a2 σ = some o → MV l yX1_readBracket (Cond.code yX1_readBracket cX1_readBracket 4 none :: gW) (rm_X1R dd) LC Y D E [.ref (E 4), .int a1, .int a2] σ o) {σ : Sta} {o : Unit × Sta} (h : fb_X1_readLevel r_X1_readLevel r_X1_readFactor r_X1_readBracket a1 a2 σ = some o) : MV l yX1_readLevel (Cond.code yX1_readLevel cX1_readLevel 6 none :: gW) (rm_X1R (dd + 1)) LC Y D E [.ref (E 4), .int a1, .int a2] σ o := by
  intro sz
  refine Met_of (Qc := fun sz => QV LC Y D E sz o) (by decide) (Nat.le_of_ble_eq_true rfl) (fun p e s m args below meth c hF hP ls hl => ?_) sz
  have hS : va_S (AF E LC.length s.heap.size) s.heap s.heap [] := va_S.rf
  have hl : lv_has ls 6 [(0, .ref (E 4)), (1, .int a1), (2, .int a2)] := hl
  show WV p l e (rm_X1R (dd + 1)) s m args below meth c LC Y D E o s.heap [] (F0 m 0 ls [])
  unfold fb_X1_readLevel at h
  obtain ⟨hC, hb, hml, hr, hlk, hD, hSW⟩ := id hF
  have hx := hC.1
  refine lv_iload_n hx hb dX1_readLevel_0 rfl (lv_at hl 1 rfl) ?_
  refine lv_iconst (v := 4) hx hb dX1_readLevel_1 (by decide) ?_
  refine lv_icmp_le (tgt := 11) hx hb dX1_readLevel_2 (by decide) (fun c1 => ?_) (fun c1 => ?_)
  · have h := of_t h c1
    refine lv_aload_n hx hb dX1_readLevel_11 rfl (lv_at hl 0 rfl) ?_
    refine lv_iload_n hx hb dX1_readLevel_12 rfl (lv_at hl 1 rfl) ?_
    refine lv_iconst (v := 1) hx hb dX1_readLevel_13 (by decide) ?_
    refine lv_iadd hx hb dX1_readLevel_14 ?_
    refine lv_iload_n hx hb dX1_readLevel_15 rfl (lv_at hl 2 rfl) ?_
    obtain ⟨r2, σ3, g4, h⟩ := of_bnd h
    refine x_VV (As := [.int (a1 + 1), .int a2]) (rest := []) hF hl hP hS (hr_X1_readLevel _ _ _ _ g4) (cw_X1_179 hC rfl rfl ⟨by dsimp only [rm_X1R, rm_X1R]; omega, by dsimp only [rm_X1R, rm_X1R]; omega⟩) lc_4 rfl rfl rfl (Nat.le_of_ble_eq_true rfl) dX1_readLevel_16 ⟨Nat.zero_le _, Nat.zero_le _⟩ (fun H locs hP hS => ?_)
    refine lv_iload_n hx hb dX1_readLevel_19 rfl (lv_at hl 1 rfl) ?_
    refine lv_iconst (v := 2) hx hb dX1_readLevel_20 (by decide) ?_
    refine lv_icmp_ne (tgt := 28) hx hb dX1_readLevel_21 (by decide) (fun c5 => ?_) (fun c5 => ?_)
    · have h := of_f h c5
      refine lv_bipush (v := 60) hx hb dX1_readLevel_28 (by decide) ?_
      exact t_X1_readLevel_30  hr_X1_readLevel hr_X1_readFactor hr_X1_readBracket hF a1 a2 60 σ3 _ _ _ h hP hS (lv_sub hl [0, 1, 2] rfl)
    · have h := of_t h c5
      refine lv_iconst (v := 1) hx hb dX1_readLevel_24 (by decide) ?_
      refine lv_goto (tgt := 30) hx hb dX1_readLevel_25 (by decide) ?_
      exact t_X1_readLevel_30  hr_X1_readLevel hr_X1_readFactor hr_X1_readBracket hF a1 a2 1 σ3 _ _ _ h hP hS (lv_sub hl [0, 1, 2] rfl)
  · have h := of_f h c1
    refine lv_aload_n hx hb dX1_readLevel_5 rfl (lv_at hl 0 rfl) ?_
    refine lv_iload_n hx hb dX1_readLevel_6 rfl (lv_at hl 2 rfl) ?_
    obtain ⟨r6, σ7, g8, h⟩ := of_bnd h
    refine x_VV (As := [.int a2]) (rest := []) hF hl hP hS (hr_X1_readFactor _ _ _ g8) (cw_X1_182 hC rfl rfl ⟨by dsimp only [rm_X1R, rm_X1R]; omega, by dsimp only [rm_X1R, rm_X1R]; omega⟩) lc_4 rfl rfl rfl (Nat.le_of_ble_eq_true rfl) dX1_readLevel_7 ⟨Nat.zero_le _, Nat.zero_le _⟩ (fun H locs hP hS => ?_)
    exact x_vret hF hP hS h dX1_readLevel_10

def f_X1_readFactor_275 (r_X1_readLevel : Int32 → Int32 → Sta → Option (Unit × Sta)) (r_X1_readFactor : Int32 → Sta → Option (Unit × Sta)) (r_X1_readBracket : Int32 → Int32 → Sta → Option (Unit × Sta)) (σ : Sta) : Option (Unit × Sta) :=
  some ((), σ)
set_option maxHeartbeats 4000000 in
set_option maxRecDepth 100000 in
theorem t_X1_readFactor_275 {l : Launch} {D : va_G} {Y : CYs} {E : Nat → Nat} {p : Program} {e : Env} {s : State} {m : MethodId} {args : Array Value} {below : List Frame} {meth : Method} {c : Code} {r_X1_readLevel : Int32 → Int32 → Sta → Option (Unit × Sta)} {r_X1_readFactor : Int32 → Sta → Option (Unit × Sta)} {r_X1_readBracket : Int32 → Int32 → Sta → Option (Unit × Sta)} {dd : Nat} (hr_X1_readLevel : ∀ (a1 : Int32) (a2 : Int32) (σ : Sta) (o : Unit × Sta), r_X1_readLevel a1 a2 σ = some o → MV l yX1_readLevel (Cond.code yX1_readLevel cX1_readLevel 6 none :: gW) (rm_X1R dd) LC Y D E [.ref (E 4), .int a1, .int a2] σ o) (hr_X1_readFactor : ∀ (a1 : Int32) (σ : Sta) (o : Unit × Sta), r_X1_readFactor a1 σ = some o → MV l yX1_readFactor (Cond.code yX1_readFactor cX1_readFactor 4 none :: gW) (rm_X1R dd) LC Y D E [.ref (E 4), .int a1] σ o) (hr_X1_readBracket : ∀ (a1 : Int32) (a2 : Int32) (σ : Sta) (o : Unit × Sta), r_X1_readBracket a1 a2 σ = some o → MV l yX1_readBracket (Cond.code yX1_readBracket cX1_readBracket 4 none :: gW) (rm_X1R dd) LC Y D E [.ref (E 4), .int a1, .int a2] σ o) (hF : Fr p s m args meth c RX1 cX1_readFactor 4 none D Y E LC) {o : Unit × Sta} : ∀ (σ : Sta) (H : Heap) (locs : List Loc) (ls : Array Slot), f_X1_readFactor_275 r_X1_readLevel r_X1_readFactor r_X1_readBracket σ = some o → va_P D vwCl (wd Y E σ 0 LC) H → va_S (AF E LC.length s.heap.size) s.heap H locs → lv_has ls 4 [] → WV p l e (rm_X1R (dd + 1)) s m args below meth c LC Y D E o H locs (F0 m 275 ls []) := by
  intro σ H locs ls h hP hS hl
  unfold f_X1_readFactor_275 at h
  obtain ⟨hC, hb, hml, hr, hlk, hD, hSW⟩ := id hF
  have hx := hC.1
  exact x_vret hF hP hS h dX1_readFactor_275

def f_X1_readFactor_143 (r_X1_readLevel : Int32 → Int32 → Sta → Option (Unit × Sta)) (r_X1_readFactor : Int32 → Sta → Option (Unit × Sta)) (r_X1_readBracket : Int32 → Int32 → Sta → Option (Unit × Sta)) (v3 : Int32) (s0 : Int32) (σ : Sta) : Option (Unit × Sta) :=
  bnd (f_X1_demand s0 2 (gI σ 260) σ) (fun _ σ2 =>
  bnd (f_X0_add 273 v3.toInt64 σ2) (fun _ σ5 =>
  lt (sI σ5 260 ((gI σ5 260) + 1)) (fun σ7 =>
  f_X1_readFactor_275 r_X1_readLevel r_X1_readFactor r_X1_readBracket σ7)))
set_option maxHeartbeats 4000000 in
set_option maxRecDepth 100000 in
theorem t_X1_readFactor_143 {l : Launch} {D : va_G} {Y : CYs} {E : Nat → Nat} {p : Program} {e : Env} {s : State} {m : MethodId} {args : Array Value} {below : List Frame} {meth : Method} {c : Code} {r_X1_readLevel : Int32 → Int32 → Sta → Option (Unit × Sta)} {r_X1_readFactor : Int32 → Sta → Option (Unit × Sta)} {r_X1_readBracket : Int32 → Int32 → Sta → Option (Unit × Sta)} {dd : Nat} (hr_X1_readLevel : ∀ (a1 : Int32) (a2 : Int32) (σ : Sta) (o : Unit × Sta), r_X1_readLevel a1 a2 σ = some o → MV l yX1_readLevel (Cond.code yX1_readLevel cX1_readLevel 6 none :: gW) (rm_X1R dd) LC Y D E [.ref (E 4), .int a1, .int a2] σ o) (hr_X1_readFactor : ∀ (a1 : Int32) (σ : Sta) (o : Unit × Sta), r_X1_readFactor a1 σ = some o → MV l yX1_readFactor (Cond.code yX1_readFactor cX1_readFactor 4 none :: gW) (rm_X1R dd) LC Y D E [.ref (E 4), .int a1] σ o) (hr_X1_readBracket : ∀ (a1 : Int32) (a2 : Int32) (σ : Sta) (o : Unit × Sta), r_X1_readBracket a1 a2 σ = some o → MV l yX1_readBracket (Cond.code yX1_readBracket cX1_readBracket 4 none :: gW) (rm_X1R dd) LC Y D E [.ref (E 4), .int a1, .int a2] σ o) (hF : Fr p s m args meth c RX1 cX1_readFactor 4 none D Y E LC) {o : Unit × Sta} : ∀ (v3 : Int32) (s0 : Int32) (σ : Sta) (H : Heap) (locs : List Loc) (ls : Array Slot), f_X1_readFactor_143 r_X1_readLevel r_X1_readFactor r_X1_readBracket v3 s0 σ = some o → va_P D vwCl (wd Y E σ 0 LC) H → va_S (AF E LC.length s.heap.size) s.heap H locs → lv_has ls 4 [(0, .ref (E 4)), (3, .int v3)] → WV p l e (rm_X1R (dd + 1)) s m args below meth c LC Y D E o H locs (F0 m 143 ls [.int s0, .ref (E 4)]) := by
  intro v3 s0 σ H locs ls h hP hS hl
  unfold f_X1_readFactor_143 at h
  obtain ⟨hC, hb, hml, hr, hlk, hD, hSW⟩ := id hF
  have hx := hC.1
  refine lv_iconst (v := 2) hx hb dX1_readFactor_143 (by decide) ?_
  refine lv_aload_n hx hb dX1_readFactor_144 rfl (lv_at hl 0 rfl) ?_
  refine gf_X1_43 hC hb hP dX1_readFactor_145 ?_
  obtain ⟨r1, σ2, g3, h⟩ := of_bnd h
  refine x_VV (As := [.int s0, .int 2, .int (gI σ 260)]) (rest := []) hF hl hP hS (c_X1_demand g3) (cw_X1_62 hC rfl rfl ⟨by dsimp only [rm_X1R, rm_X1_demand]; omega, by dsimp only [rm_X1R, rm_X1_demand]; omega⟩) lc_4 rfl rfl rfl (Nat.le_of_ble_eq_true rfl) dX1_readFactor_148 ⟨Nat.zero_le _, Nat.zero_le _⟩ (fun H locs hP hS => ?_)
  refine lv_aload_n hx hb dX1_readFactor_151 rfl (lv_at hl 0 rfl) ?_
  refine gf_X1_15 hC hb hP dX1_readFactor_152 ?_
  refine lv_sipush (v := 273) hx hb dX1_readFactor_155 (by decide) ?_
  refine lv_iload_n hx hb dX1_readFactor_158 rfl (lv_at hl 1 rfl) ?_
  refine lv_i2l (v := v3.toInt64) hx hb dX1_readFactor_159 rfl ?_
  obtain ⟨r4, σ5, g6, h⟩ := of_bnd h
  refine x_VV (As := [.int 273, .long v3.toInt64]) (rest := []) hF hl hP hS (c_X0_add g6) (cw_X1_188 hC rfl rfl ⟨by dsimp only [rm_X1R, rm_X0_add]; omega, by dsimp only [rm_X1R, rm_X0_add]; omega⟩) lc_2 rfl rfl rfl (Nat.le_of_ble_eq_true rfl) dX1_readFactor_160 ⟨Nat.zero_le _, Nat.zero_le _⟩ (fun H locs hP hS => ?_)
  refine lv_aload_n hx hb dX1_readFactor_163 rfl (lv_at hl 0 rfl) ?_
  refine lv_dup hx hb dX1_readFactor_164 rfl ?_
  refine gf_X1_43 hC hb hP dX1_readFactor_165 ?_
  refine lv_iconst (v := 1) hx hb dX1_readFactor_168 (by decide) ?_
  refine lv_iadd hx hb dX1_readFactor_169 ?_
  refine pf_X1_43 hC hb hP hD hS dX1_readFactor_170 (fun H locs σ7 eσ7 hP hS => ?_)
  have h := of_lt h eσ7
  refine lv_goto (tgt := 275) hx hb dX1_readFactor_173 (by decide) ?_
  exact t_X1_readFactor_275  hr_X1_readLevel hr_X1_readFactor hr_X1_readBracket hF σ7 _ _ _ h hP hS (lv_sub hl [] rfl)

def f_X1_readFactor_220 (r_X1_readLevel : Int32 → Int32 → Sta → Option (Unit × Sta)) (r_X1_readFactor : Int32 → Sta → Option (Unit × Sta)) (r_X1_readBracket : Int32 → Int32 → Sta → Option (Unit × Sta)) (s0 : Int32) (σ : Sta) : Option (Unit × Sta) :=
  bnd (f_X0_add s0 0 σ) (fun _ σ2 =>
  f_X1_readFactor_275 r_X1_readLevel r_X1_readFactor r_X1_readBracket σ2)
set_option maxHeartbeats 4000000 in
set_option maxRecDepth 100000 in
theorem t_X1_readFactor_220 {l : Launch} {D : va_G} {Y : CYs} {E : Nat → Nat} {p : Program} {e : Env} {s : State} {m : MethodId} {args : Array Value} {below : List Frame} {meth : Method} {c : Code} {r_X1_readLevel : Int32 → Int32 → Sta → Option (Unit × Sta)} {r_X1_readFactor : Int32 → Sta → Option (Unit × Sta)} {r_X1_readBracket : Int32 → Int32 → Sta → Option (Unit × Sta)} {dd : Nat} (hr_X1_readLevel : ∀ (a1 : Int32) (a2 : Int32) (σ : Sta) (o : Unit × Sta), r_X1_readLevel a1 a2 σ = some o → MV l yX1_readLevel (Cond.code yX1_readLevel cX1_readLevel 6 none :: gW) (rm_X1R dd) LC Y D E [.ref (E 4), .int a1, .int a2] σ o) (hr_X1_readFactor : ∀ (a1 : Int32) (σ : Sta) (o : Unit × Sta), r_X1_readFactor a1 σ = some o → MV l yX1_readFactor (Cond.code yX1_readFactor cX1_readFactor 4 none :: gW) (rm_X1R dd) LC Y D E [.ref (E 4), .int a1] σ o) (hr_X1_readBracket : ∀ (a1 : Int32) (a2 : Int32) (σ : Sta) (o : Unit × Sta), r_X1_readBracket a1 a2 σ = some o → MV l yX1_readBracket (Cond.code yX1_readBracket cX1_readBracket 4 none :: gW) (rm_X1R dd) LC Y D E [.ref (E 4), .int a1, .int a2] σ o) (hF : Fr p s m args meth c RX1 cX1_readFactor 4 none D Y E LC) {o : Unit × Sta} : ∀ (s0 : Int32) (σ : Sta) (H : Heap) (locs : List Loc) (ls : Array Slot), f_X1_readFactor_220 r_X1_readLevel r_X1_readFactor r_X1_readBracket s0 σ = some o → va_P D vwCl (wd Y E σ 0 LC) H → va_S (AF E LC.length s.heap.size) s.heap H locs → lv_has ls 4 [] → WV p l e (rm_X1R (dd + 1)) s m args below meth c LC Y D E o H locs (F0 m 220 ls [.int s0, .ref (E 2)]) := by
  intro s0 σ H locs ls h hP hS hl
  unfold f_X1_readFactor_220 at h
  obtain ⟨hC, hb, hml, hr, hlk, hD, hSW⟩ := id hF
  have hx := hC.1
  refine lv_lconst (v := 0) hx hb dX1_readFactor_220 (by decide) ?_
  obtain ⟨r1, σ2, g3, h⟩ := of_bnd h
  refine x_VV (As := [.int s0, .long 0]) (rest := []) hF hl hP hS (c_X0_add g3) (cw_X1_188 hC rfl rfl ⟨by dsimp only [rm_X1R, rm_X0_add]; omega, by dsimp only [rm_X1R, rm_X0_add]; omega⟩) lc_2 rfl rfl rfl (Nat.le_of_ble_eq_true rfl) dX1_readFactor_221 ⟨Nat.zero_le _, Nat.zero_le _⟩ (fun H locs hP hS => ?_)
  refine lv_goto (tgt := 275) hx hb dX1_readFactor_224 (by decide) ?_
  exact t_X1_readFactor_275  hr_X1_readLevel hr_X1_readFactor hr_X1_readBracket hF σ2 _ _ _ h hP hS (lv_sub hl [] rfl)

def f_X1_readFactor_250 (r_X1_readLevel : Int32 → Int32 → Sta → Option (Unit × Sta)) (r_X1_readFactor : Int32 → Sta → Option (Unit × Sta)) (r_X1_readBracket : Int32 → Int32 → Sta → Option (Unit × Sta)) (v1 : Int32) (v2 : Int32) (s0 : Int32) (σ : Sta) : Option (Unit × Sta) :=
  bnd (r_X1_readBracket s0 v1 σ) (fun _ σ2 =>
  bnd (f_X0_add v2 0 σ2) (fun _ σ5 =>
  f_X1_readFactor_275 r_X1_readLevel r_X1_readFactor r_X1_readBracket σ5))
set_option maxHeartbeats 4000000 in
set_option maxRecDepth 100000 in
theorem t_X1_readFactor_250 {l : Launch} {D : va_G} {Y : CYs} {E : Nat → Nat} {p : Program} {e : Env} {s : State} {m : MethodId} {args : Array Value} {below : List Frame} {meth : Method} {c : Code} {r_X1_readLevel : Int32 → Int32 → Sta → Option (Unit × Sta)} {r_X1_readFactor : Int32 → Sta → Option (Unit × Sta)} {r_X1_readBracket : Int32 → Int32 → Sta → Option (Unit × Sta)} {dd : Nat} (hr_X1_readLevel : ∀ (a1 : Int32) (a2 : Int32) (σ : Sta) (o : Unit × Sta), r_X1_readLevel a1 a2 σ = some o → MV l yX1_readLevel (Cond.code yX1_readLevel cX1_readLevel 6 none :: gW) (rm_X1R dd) LC Y D E [.ref (E 4), .int a1, .int a2] σ o) (hr_X1_readFactor : ∀ (a1 : Int32) (σ : Sta) (o : Unit × Sta), r_X1_readFactor a1 σ = some o → MV l yX1_readFactor (Cond.code yX1_readFactor cX1_readFactor 4 none :: gW) (rm_X1R dd) LC Y D E [.ref (E 4), .int a1] σ o) (hr_X1_readBracket : ∀ (a1 : Int32) (a2 : Int32) (σ : Sta) (o : Unit × Sta), r_X1_readBracket a1 a2 σ = some o → MV l yX1_readBracket (Cond.code yX1_readBracket cX1_readBracket 4 none :: gW) (rm_X1R dd) LC Y D E [.ref (E 4), .int a1, .int a2] σ o) (hF : Fr p s m args meth c RX1 cX1_readFactor 4 none D Y E LC) {o : Unit × Sta} : ∀ (v1 : Int32) (v2 : Int32) (s0 : Int32) (σ : Sta) (H : Heap) (locs : List Loc) (ls : Array Slot), f_X1_readFactor_250 r_X1_readLevel r_X1_readFactor r_X1_readBracket v1 v2 s0 σ = some o → va_P D vwCl (wd Y E σ 0 LC) H → va_S (AF E LC.length s.heap.size) s.heap H locs → lv_has ls 4 [(0, .ref (E 4)), (1, .int v1), (2, .int v2)] → WV p l e (rm_X1R (dd + 1)) s m args below meth c LC Y D E o H locs (F0 m 250 ls [.int s0, .ref (E 4)]) := by
  intro v1 v2 s0 σ H locs ls h hP hS hl
  unfold f_X1_readFactor_250 at h
  obtain ⟨hC, hb, hml, hr, hlk, hD, hSW⟩ := id hF
  have hx := hC.1
  refine lv_iload_n hx hb dX1_readFactor_250 rfl (lv_at hl 1 rfl) ?_
  obtain ⟨r1, σ2, g3, h⟩ := of_bnd h
  refine x_VV (As := [.int s0, .int v1]) (rest := []) hF hl hP hS (hr_X1_readBracket _ _ _ _ g3) (cw_X1_192 hC rfl rfl ⟨by dsimp only [rm_X1R, rm_X1R]; omega, by dsimp only [rm_X1R, rm_X1R]; omega⟩) lc_4 rfl rfl rfl (Nat.le_of_ble_eq_true rfl) dX1_readFactor_251 ⟨Nat.zero_le _, Nat.zero_le _⟩ (fun H locs hP hS => ?_)
  refine lv_aload_n hx hb dX1_readFactor_254 rfl (lv_at hl 0 rfl) ?_
  refine gf_X1_15 hC hb hP dX1_readFactor_255 ?_
  refine lv_iload_n hx hb dX1_readFactor_258 rfl (lv_at hl 2 rfl) ?_
  refine lv_lconst (v := 0) hx hb dX1_readFactor_259 (by decide) ?_
  obtain ⟨r4, σ5, g6, h⟩ := of_bnd h
  refine x_VV (As := [.int v2, .long 0]) (rest := []) hF hl hP hS (c_X0_add g6) (cw_X1_188 hC rfl rfl ⟨by dsimp only [rm_X1R, rm_X0_add]; omega, by dsimp only [rm_X1R, rm_X0_add]; omega⟩) lc_2 rfl rfl rfl (Nat.le_of_ble_eq_true rfl) dX1_readFactor_260 ⟨Nat.zero_le _, Nat.zero_le _⟩ (fun H locs hP hS => ?_)
  refine lv_goto (tgt := 275) hx hb dX1_readFactor_263 (by decide) ?_
  exact t_X1_readFactor_275  hr_X1_readLevel hr_X1_readFactor hr_X1_readBracket hF σ5 _ _ _ h hP hS (lv_sub hl [] rfl)

def fb_X1_readFactor (r_X1_readLevel : Int32 → Int32 → Sta → Option (Unit × Sta)) (r_X1_readFactor : Int32 → Sta → Option (Unit × Sta)) (r_X1_readBracket : Int32 → Int32 → Sta → Option (Unit × Sta)) (a1 : Int32) (σ : Sta) : Option (Unit × Sta) :=
  bnd (f_X1_look σ) (fun r1 σ2 =>
  if r1 = 40 then
    bnd (r_X1_readBracket 1 a1 σ2) (fun _ σ6 =>
    f_X1_readFactor_275 r_X1_readLevel r_X1_readFactor r_X1_readBracket σ6)
  else if r1 = 45 then
    bnd (f_X1_acceptDeeper r1 a1 σ2) (fun r9 σ10 =>
    if r9 = 0 then
      f_X1_readFactor_275 r_X1_readLevel r_X1_readFactor r_X1_readBracket σ10
    else
      bnd (r_X1_readFactor (a1 + 1) σ10) (fun _ σ14 =>
      if r1 = 45 then
        f_X1_readFactor_220 r_X1_readLevel r_X1_readFactor r_X1_readBracket 280 σ14
      else
        f_X1_readFactor_220 r_X1_readLevel r_X1_readFactor r_X1_readBracket 269 σ14))
  else if r1 = 269 then
    bnd (f_X1_acceptDeeper r1 a1 σ2) (fun r18 σ19 =>
    if r18 = 0 then
      f_X1_readFactor_275 r_X1_readLevel r_X1_readFactor r_X1_readBracket σ19
    else
      bnd (r_X1_readFactor (a1 + 1) σ19) (fun _ σ23 =>
      if r1 = 45 then
        f_X1_readFactor_220 r_X1_readLevel r_X1_readFactor r_X1_readBracket 280 σ23
      else
        f_X1_readFactor_220 r_X1_readLevel r_X1_readFactor r_X1_readBracket 269 σ23))
  else if r1 = 270 then
    lt (sI σ2 260 ((gI σ2 260) + 1)) (fun σ27 =>
    if r1 = 272 then
      f_X1_readFactor_250 r_X1_readLevel r_X1_readFactor r_X1_readBracket a1 r1 1 σ27
    else
      f_X1_readFactor_250 r_X1_readLevel r_X1_readFactor r_X1_readBracket a1 r1 2 σ27)
  else if r1 = 271 then
    lt (sI σ2 260 ((gI σ2 260) + 1)) (fun σ30 =>
    if r1 = 272 then
      f_X1_readFactor_250 r_X1_readLevel r_X1_readFactor r_X1_readBracket a1 r1 1 σ30
    else
      f_X1_readFactor_250 r_X1_readLevel r_X1_readFactor r_X1_readBracket a1 r1 2 σ30)
  else if r1 = 272 then
    lt (sI σ2 260 ((gI σ2 260) + 1)) (fun σ33 =>
    if r1 = 272 then
      f_X1_readFactor_250 r_X1_readLevel r_X1_readFactor r_X1_readBracket a1 r1 1 σ33
    else
      f_X1_readFactor_250 r_X1_readLevel r_X1_readFactor r_X1_readBracket a1 r1 2 σ33)
  else if r1 = 273 then
    bnd (f_X7_contentOf (gI σ2 260) σ2) (fun r36 σ37 =>
    bnd (f_X4_variableNamed r36 σ37) (fun r39 σ40 =>
    if r39 < 0 then
      f_X1_readFactor_143 r_X1_readLevel r_X1_readFactor r_X1_readBracket r39 0 σ40
    else
      f_X1_readFactor_143 r_X1_readLevel r_X1_readFactor r_X1_readBracket r39 1 σ40))
  else if r1 = 274 then
    bnd (f_X7_contentOf (gI σ2 260) σ2) (fun r44 σ45 =>
    bnd (f_X0_add 274 r44 σ45) (fun _ σ48 =>
    lt (sI σ48 260 ((gI σ48 260) + 1)) (fun σ50 =>
    f_X1_readFactor_275 r_X1_readLevel r_X1_readFactor r_X1_readBracket σ50)))
  else 
    bnd (f_X1_fail 1 (gI σ2 260) σ2) (fun _ σ52 =>
    f_X1_readFactor_275 r_X1_readLevel r_X1_readFactor r_X1_readBracket σ52))
set_option maxHeartbeats 4000000 in
set_option maxRecDepth 100000 in
theorem cb_X1_readFactor {l : Launch} {D : va_G} {Y : CYs} {E : Nat → Nat} {r_X1_readLevel : Int32 → Int32 → Sta → Option (Unit × Sta)} {r_X1_readFactor : Int32 → Sta → Option (Unit × Sta)} {r_X1_readBracket : Int32 → Int32 → Sta → Option (Unit × Sta)} {a1 : Int32} {dd : Nat} (hr_X1_readLevel : ∀ (a1 : Int32) (a2 : Int32) (σ : Sta) (o : Unit × Sta), r_X1_readLevel a1 a2 σ = some o → MV l yX1_readLevel (Cond.code yX1_readLevel cX1_readLevel 6 none :: gW) (rm_X1R dd) LC Y D E [.ref (E 4), .int a1, .int a2] σ o) (hr_X1_readFactor : ∀ (a1 : Int32) (σ : Sta) (o : Unit × Sta), r_X1_readFactor a1 σ = some o → MV l yX1_readFactor (Cond.code yX1_readFactor cX1_readFactor 4 none :: gW) (rm_X1R dd) LC Y D E [.ref (E 4), .int a1] σ o) (hr_X1_readBracket : ∀ (a1 : Int32) (a2 : Int32) (σ : Sta) (o : Unit × Sta), r_X1_readBracket a1 a2 σ = some o → MV l yX1_readBracket (Cond.code yX1_readBracket cX1_readBracket 4 none :: gW) (rm_X1R dd) LC Y D E [.ref (E 4), .int a1, .int a2] σ o) {σ : Sta} {o : Unit × Sta} (h : fb_X1_readFactor r_X1_readLevel r_X1_readFactor r_X1_readBracket a1 σ = some o) : MV l yX1_readFactor (Cond.code yX1_readFactor cX1_readFactor 4 none :: gW) (rm_X1R (dd + 1)) LC Y D E [.ref (E 4), .int a1] σ o := by
  intro sz
  refine Met_of (Qc := fun sz => QV LC Y D E sz o) (by decide) (Nat.le_of_ble_eq_true rfl) (fun p e s m args below meth c hF hP ls hl => ?_) sz
  have hS : va_S (AF E LC.length s.heap.size) s.heap s.heap [] := va_S.rf
  have hl : lv_has ls 4 [(0, .ref (E 4)), (1, .int a1)] := hl
  show WV p l e (rm_X1R (dd + 1)) s m args below meth c LC Y D E o s.heap [] (F0 m 0 ls [])
  unfold fb_X1_readFactor at h
  obtain ⟨hC, hb, hml, hr, hlk, hD, hSW⟩ := id hF
  have hx := hC.1
  refine lv_aload_n hx hb dX1_readFactor_0 rfl (lv_at hl 0 rfl) ?_
  obtain ⟨r1, σ2, g3, h⟩ := of_bnd h
  refine x_VI (As := []) (rest := []) hF hl hP hS (c_X1_look g3) (cw_X1_27 hC rfl rfl ⟨by dsimp only [rm_X1R, rm_X1_look]; omega, by dsimp only [rm_X1R, rm_X1_look]; omega⟩) lc_4 rfl rfl rfl (Nat.le_of_ble_eq_true rfl) dX1_readFactor_1 ⟨Nat.zero_le _, Nat.zero_le _⟩ (fun H locs hP hS => ?_)
  refine lv_istore_n (lv' := [(2, .int r1), (0, .ref (E 4)), (1, .int a1)]) hx hb dX1_readFactor_4 rfl hl (by decide) rfl (fun ls hl => ?_)
  refine lv_iload_n hx hb dX1_readFactor_5 rfl (lv_at hl 0 rfl) ?_
  by_cases c4 : r1 = 40
  · have h := of_t h c4
    refine lv_lookup (tgt := 176) hx hb dX1_readFactor_6 (by decide) (by rw [c4]; try rfl) (by decide) ?_
    refine lv_aload_n hx hb dX1_readFactor_176 rfl (lv_at hl 1 rfl) ?_
    refine lv_iconst (v := 1) hx hb dX1_readFactor_177 (by decide) ?_
    refine lv_iload_n hx hb dX1_readFactor_178 rfl (lv_at hl 2 rfl) ?_
    obtain ⟨r5, σ6, g7, h⟩ := of_bnd h
    refine x_VV (As := [.int 1, .int a1]) (rest := []) hF hl hP hS (hr_X1_readBracket _ _ _ _ g7) (cw_X1_192 hC rfl rfl ⟨by dsimp only [rm_X1R, rm_X1R]; omega, by dsimp only [rm_X1R, rm_X1R]; omega⟩) lc_4 rfl rfl rfl (Nat.le_of_ble_eq_true rfl) dX1_readFactor_179 ⟨Nat.zero_le _, Nat.zero_le _⟩ (fun H locs hP hS => ?_)
    refine lv_goto (tgt := 275) hx hb dX1_readFactor_182 (by decide) ?_
    exact t_X1_readFactor_275  hr_X1_readLevel hr_X1_readFactor hr_X1_readBracket hF σ6 _ _ _ h hP hS (lv_sub hl [] rfl)
  · have h := of_f h c4
    by_cases c8 : r1 = 45
    · have h := of_t h c8
      refine lv_lookup (tgt := 185) hx hb dX1_readFactor_6 (by decide) (by rw [c8]; try rfl) (by decide) ?_
      refine lv_aload_n hx hb dX1_readFactor_185 rfl (lv_at hl 1 rfl) ?_
      refine lv_iload_n hx hb dX1_readFactor_186 rfl (lv_at hl 0 rfl) ?_
      refine lv_iload_n hx hb dX1_readFactor_187 rfl (lv_at hl 2 rfl) ?_
      obtain ⟨r9, σ10, g11, h⟩ := of_bnd h
      refine x_VI (As := [.int r1, .int a1]) (rest := []) hF hl hP hS (c_X1_acceptDeeper g11) (cw_X1_195 hC rfl rfl ⟨by dsimp only [rm_X1R, rm_X1_acceptDeeper]; omega, by dsimp only [rm_X1R, rm_X1_acceptDeeper]; omega⟩) lc_4 rfl rfl rfl (Nat.le_of_ble_eq_true rfl) dX1_readFactor_188 ⟨Nat.zero_le _, Nat.zero_le _⟩ (fun H locs hP hS => ?_)
      refine lv_if_eq (tgt := 275) hx hb dX1_readFactor_191 (by decide) (fun c12 => ?_) (fun c12 => ?_)
      · have h := of_t h c12
        exact t_X1_readFactor_275  hr_X1_readLevel hr_X1_readFactor hr_X1_readBracket hF σ10 _ _ _ h hP hS (lv_sub hl [] rfl)
      · have h := of_f h c12
        refine lv_aload_n hx hb dX1_readFactor_194 rfl (lv_at hl 1 rfl) ?_
        refine lv_iload_n hx hb dX1_readFactor_195 rfl (lv_at hl 2 rfl) ?_
        refine lv_iconst (v := 1) hx hb dX1_readFactor_196 (by decide) ?_
        refine lv_iadd hx hb dX1_readFactor_197 ?_
        obtain ⟨r13, σ14, g15, h⟩ := of_bnd h
        refine x_VV (As := [.int (a1 + 1)]) (rest := []) hF hl hP hS (hr_X1_readFactor _ _ _ g15) (cw_X1_182 hC rfl rfl ⟨by dsimp only [rm_X1R, rm_X1R]; omega, by dsimp only [rm_X1R, rm_X1R]; omega⟩) lc_4 rfl rfl rfl (Nat.le_of_ble_eq_true rfl) dX1_readFactor_198 ⟨Nat.zero_le _, Nat.zero_le _⟩ (fun H locs hP hS => ?_)
        refine lv_aload_n hx hb dX1_readFactor_201 rfl (lv_at hl 1 rfl) ?_
        refine gf_X1_15 hC hb hP dX1_readFactor_202 ?_
        refine lv_iload_n hx hb dX1_readFactor_205 rfl (lv_at hl 0 rfl) ?_
        refine lv_bipush (v := 45) hx hb dX1_readFactor_206 (by decide) ?_
        refine lv_icmp_ne (tgt := 217) hx hb dX1_readFactor_208 (by decide) (fun c16 => ?_) (fun c16 => ?_)
        · have h := of_f h c16
          refine lv_sipush (v := 269) hx hb dX1_readFactor_217 (by decide) ?_
          exact t_X1_readFactor_220  hr_X1_readLevel hr_X1_readFactor hr_X1_readBracket hF 269 σ14 _ _ _ h hP hS (lv_sub hl [] rfl)
        · have h := of_t h c16
          refine lv_sipush (v := 280) hx hb dX1_readFactor_211 (by decide) ?_
          refine lv_goto (tgt := 220) hx hb dX1_readFactor_214 (by decide) ?_
          exact t_X1_readFactor_220  hr_X1_readLevel hr_X1_readFactor hr_X1_readBracket hF 280 σ14 _ _ _ h hP hS (lv_sub hl [] rfl)
    · have h := of_f h c8
      by_cases c17 : r1 = 269
      · have h := of_t h c17
        refine lv_lookup (tgt := 185) hx hb dX1_readFactor_6 (by decide) (by rw [c17]; try rfl) (by decide) ?_
        refine lv_aload_n hx hb dX1_readFactor_185 rfl (lv_at hl 1 rfl) ?_
        refine lv_iload_n hx hb dX1_readFactor_186 rfl (lv_at hl 0 rfl) ?_
        refine lv_iload_n hx hb dX1_readFactor_187 rfl (lv_at hl 2 rfl) ?_
        obtain ⟨r18, σ19, g20, h⟩ := of_bnd h
        refine x_VI (As := [.int r1, .int a1]) (rest := []) hF hl hP hS (c_X1_acceptDeeper g20) (cw_X1_195 hC rfl rfl ⟨by dsimp only [rm_X1R, rm_X1_acceptDeeper]; omega, by dsimp only [rm_X1R, rm_X1_acceptDeeper]; omega⟩) lc_4 rfl rfl rfl (Nat.le_of_ble_eq_true rfl) dX1_readFactor_188 ⟨Nat.zero_le _, Nat.zero_le _⟩ (fun H locs hP hS => ?_)
        refine lv_if_eq (tgt := 275) hx hb dX1_readFactor_191 (by decide) (fun c21 => ?_) (fun c21 => ?_)
        · have h := of_t h c21
          exact t_X1_readFactor_275  hr_X1_readLevel hr_X1_readFactor hr_X1_readBracket hF σ19 _ _ _ h hP hS (lv_sub hl [] rfl)
        · have h := of_f h c21
          refine lv_aload_n hx hb dX1_readFactor_194 rfl (lv_at hl 1 rfl) ?_
          refine lv_iload_n hx hb dX1_readFactor_195 rfl (lv_at hl 2 rfl) ?_
          refine lv_iconst (v := 1) hx hb dX1_readFactor_196 (by decide) ?_
          refine lv_iadd hx hb dX1_readFactor_197 ?_
          obtain ⟨r22, σ23, g24, h⟩ := of_bnd h
          refine x_VV (As := [.int (a1 + 1)]) (rest := []) hF hl hP hS (hr_X1_readFactor _ _ _ g24) (cw_X1_182 hC rfl rfl ⟨by dsimp only [rm_X1R, rm_X1R]; omega, by dsimp only [rm_X1R, rm_X1R]; omega⟩) lc_4 rfl rfl rfl (Nat.le_of_ble_eq_true rfl) dX1_readFactor_198 ⟨Nat.zero_le _, Nat.zero_le _⟩ (fun H locs hP hS => ?_)
          refine lv_aload_n hx hb dX1_readFactor_201 rfl (lv_at hl 1 rfl) ?_
          refine gf_X1_15 hC hb hP dX1_readFactor_202 ?_
          refine lv_iload_n hx hb dX1_readFactor_205 rfl (lv_at hl 0 rfl) ?_
          refine lv_bipush (v := 45) hx hb dX1_readFactor_206 (by decide) ?_
          refine lv_icmp_ne (tgt := 217) hx hb dX1_readFactor_208 (by decide) (fun c25 => ?_) (fun c25 => ?_)
          · have h := of_f h c25
            refine lv_sipush (v := 269) hx hb dX1_readFactor_217 (by decide) ?_
            exact t_X1_readFactor_220  hr_X1_readLevel hr_X1_readFactor hr_X1_readBracket hF 269 σ23 _ _ _ h hP hS (lv_sub hl [] rfl)
          · have h := of_t h c25
            refine lv_sipush (v := 280) hx hb dX1_readFactor_211 (by decide) ?_
            refine lv_goto (tgt := 220) hx hb dX1_readFactor_214 (by decide) ?_
            exact t_X1_readFactor_220  hr_X1_readLevel hr_X1_readFactor hr_X1_readBracket hF 280 σ23 _ _ _ h hP hS (lv_sub hl [] rfl)
      · have h := of_f h c17
        by_cases c26 : r1 = 270
        · have h := of_t h c26
          refine lv_lookup (tgt := 227) hx hb dX1_readFactor_6 (by decide) (by rw [c26]; try rfl) (by decide) ?_
          refine lv_aload_n hx hb dX1_readFactor_227 rfl (lv_at hl 1 rfl) ?_
          refine lv_dup hx hb dX1_readFactor_228 rfl ?_
          refine gf_X1_43 hC hb hP dX1_readFactor_229 ?_
          refine lv_iconst (v := 1) hx hb dX1_readFactor_232 (by decide) ?_
          refine lv_iadd hx hb dX1_readFactor_233 ?_
          refine pf_X1_43 hC hb hP hD hS dX1_readFactor_234 (fun H locs σ27 eσ27 hP hS => ?_)
          have h := of_lt h eσ27
          refine lv_aload_n hx hb dX1_readFactor_237 rfl (lv_at hl 1 rfl) ?_
          refine lv_iload_n hx hb dX1_readFactor_238 rfl (lv_at hl 0 rfl) ?_
          refine lv_sipush (v := 272) hx hb dX1_readFactor_239 (by decide) ?_
          refine lv_icmp_ne (tgt := 249) hx hb dX1_readFactor_242 (by decide) (fun c28 => ?_) (fun c28 => ?_)
          · have h := of_f h c28
            refine lv_iconst (v := 2) hx hb dX1_readFactor_249 (by decide) ?_
            exact t_X1_readFactor_250  hr_X1_readLevel hr_X1_readFactor hr_X1_readBracket hF a1 r1 2 σ27 _ _ _ h hP hS (lv_sub hl [1, 2, 0] rfl)
          · have h := of_t h c28
            refine lv_iconst (v := 1) hx hb dX1_readFactor_245 (by decide) ?_
            refine lv_goto (tgt := 250) hx hb dX1_readFactor_246 (by decide) ?_
            exact t_X1_readFactor_250  hr_X1_readLevel hr_X1_readFactor hr_X1_readBracket hF a1 r1 1 σ27 _ _ _ h hP hS (lv_sub hl [1, 2, 0] rfl)
        · have h := of_f h c26
          by_cases c29 : r1 = 271
          · have h := of_t h c29
            refine lv_lookup (tgt := 227) hx hb dX1_readFactor_6 (by decide) (by rw [c29]; try rfl) (by decide) ?_
            refine lv_aload_n hx hb dX1_readFactor_227 rfl (lv_at hl 1 rfl) ?_
            refine lv_dup hx hb dX1_readFactor_228 rfl ?_
            refine gf_X1_43 hC hb hP dX1_readFactor_229 ?_
            refine lv_iconst (v := 1) hx hb dX1_readFactor_232 (by decide) ?_
            refine lv_iadd hx hb dX1_readFactor_233 ?_
            refine pf_X1_43 hC hb hP hD hS dX1_readFactor_234 (fun H locs σ30 eσ30 hP hS => ?_)
            have h := of_lt h eσ30
            refine lv_aload_n hx hb dX1_readFactor_237 rfl (lv_at hl 1 rfl) ?_
            refine lv_iload_n hx hb dX1_readFactor_238 rfl (lv_at hl 0 rfl) ?_
            refine lv_sipush (v := 272) hx hb dX1_readFactor_239 (by decide) ?_
            refine lv_icmp_ne (tgt := 249) hx hb dX1_readFactor_242 (by decide) (fun c31 => ?_) (fun c31 => ?_)
            · have h := of_f h c31
              refine lv_iconst (v := 2) hx hb dX1_readFactor_249 (by decide) ?_
              exact t_X1_readFactor_250  hr_X1_readLevel hr_X1_readFactor hr_X1_readBracket hF a1 r1 2 σ30 _ _ _ h hP hS (lv_sub hl [1, 2, 0] rfl)
            · have h := of_t h c31
              refine lv_iconst (v := 1) hx hb dX1_readFactor_245 (by decide) ?_
              refine lv_goto (tgt := 250) hx hb dX1_readFactor_246 (by decide) ?_
              exact t_X1_readFactor_250  hr_X1_readLevel hr_X1_readFactor hr_X1_readBracket hF a1 r1 1 σ30 _ _ _ h hP hS (lv_sub hl [1, 2, 0] rfl)
          · have h := of_f h c29
            by_cases c32 : r1 = 272
            · have h := of_t h c32
              refine lv_lookup (tgt := 227) hx hb dX1_readFactor_6 (by decide) (by rw [c32]; try rfl) (by decide) ?_
              refine lv_aload_n hx hb dX1_readFactor_227 rfl (lv_at hl 1 rfl) ?_
              refine lv_dup hx hb dX1_readFactor_228 rfl ?_
              refine gf_X1_43 hC hb hP dX1_readFactor_229 ?_
              refine lv_iconst (v := 1) hx hb dX1_readFactor_232 (by decide) ?_
              refine lv_iadd hx hb dX1_readFactor_233 ?_
              refine pf_X1_43 hC hb hP hD hS dX1_readFactor_234 (fun H locs σ33 eσ33 hP hS => ?_)
              have h := of_lt h eσ33
              refine lv_aload_n hx hb dX1_readFactor_237 rfl (lv_at hl 1 rfl) ?_
              refine lv_iload_n hx hb dX1_readFactor_238 rfl (lv_at hl 0 rfl) ?_
              refine lv_sipush (v := 272) hx hb dX1_readFactor_239 (by decide) ?_
              refine lv_icmp_ne (tgt := 249) hx hb dX1_readFactor_242 (by decide) (fun c34 => ?_) (fun c34 => ?_)
              · have h := of_f h c34
                refine lv_iconst (v := 2) hx hb dX1_readFactor_249 (by decide) ?_
                exact t_X1_readFactor_250  hr_X1_readLevel hr_X1_readFactor hr_X1_readBracket hF a1 r1 2 σ33 _ _ _ h hP hS (lv_sub hl [1, 2, 0] rfl)
              · have h := of_t h c34
                refine lv_iconst (v := 1) hx hb dX1_readFactor_245 (by decide) ?_
                refine lv_goto (tgt := 250) hx hb dX1_readFactor_246 (by decide) ?_
                exact t_X1_readFactor_250  hr_X1_readLevel hr_X1_readFactor hr_X1_readBracket hF a1 r1 1 σ33 _ _ _ h hP hS (lv_sub hl [1, 2, 0] rfl)
            · have h := of_f h c32
              by_cases c35 : r1 = 273
              · have h := of_t h c35
                refine lv_lookup (tgt := 114) hx hb dX1_readFactor_6 (by decide) (by rw [c35]; try rfl) (by decide) ?_
                refine lv_aload_n hx hb dX1_readFactor_114 rfl (lv_at hl 1 rfl) ?_
                refine gf_X1_19 hC hb hP dX1_readFactor_115 ?_
                refine lv_aload_n hx hb dX1_readFactor_118 rfl (lv_at hl 1 rfl) ?_
                refine gf_X1_9 hC hb hP dX1_readFactor_119 ?_
                refine lv_aload_n hx hb dX1_readFactor_122 rfl (lv_at hl 1 rfl) ?_
                refine gf_X1_43 hC hb hP dX1_readFactor_123 ?_
                obtain ⟨r36, σ37, g38, h⟩ := of_bnd h
                refine x_VL (As := [.int (gI σ2 260)]) (rest := [.ref (E 3)]) hF hl hP hS (c_X7_contentOf g38) (cw_X1_107 hC rfl rfl ⟨by dsimp only [rm_X1R, rm_X7_contentOf]; omega, by dsimp only [rm_X1R, rm_X7_contentOf]; omega⟩) lc_1 rfl rfl rfl (Nat.le_of_ble_eq_true rfl) dX1_readFactor_126 ⟨Nat.zero_le _, Nat.zero_le _⟩ (fun H locs hP hS => ?_)
                obtain ⟨r39, σ40, g41, h⟩ := of_bnd h
                refine x_VI (As := [.long r36]) (rest := []) hF hl hP hS (c_X4_variableNamed g41) (cw_X1_158 hC rfl rfl ⟨by dsimp only [rm_X1R, rm_X4_variableNamed]; omega, by dsimp only [rm_X1R, rm_X4_variableNamed]; omega⟩) lc_3 rfl rfl rfl (Nat.le_of_ble_eq_true rfl) dX1_readFactor_129 ⟨Nat.zero_le _, Nat.zero_le _⟩ (fun H locs hP hS => ?_)
                refine lv_istore_n (lv' := [(3, .int r39), (2, .int r1), (0, .ref (E 4)), (1, .int a1)]) hx hb dX1_readFactor_132 rfl hl (by decide) rfl (fun ls hl => ?_)
                refine lv_aload_n hx hb dX1_readFactor_133 rfl (lv_at hl 2 rfl) ?_
                refine lv_iload_n hx hb dX1_readFactor_134 rfl (lv_at hl 0 rfl) ?_
                refine lv_if_lt (tgt := 142) hx hb dX1_readFactor_135 (by decide) (fun c42 => ?_) (fun c42 => ?_)
                · have h := of_t h c42
                  refine lv_iconst (v := 0) hx hb dX1_readFactor_142 (by decide) ?_
                  exact t_X1_readFactor_143  hr_X1_readLevel hr_X1_readFactor hr_X1_readBracket hF r39 0 σ40 _ _ _ h hP hS (lv_sub hl [2, 0] rfl)
                · have h := of_f h c42
                  refine lv_iconst (v := 1) hx hb dX1_readFactor_138 (by decide) ?_
                  refine lv_goto (tgt := 143) hx hb dX1_readFactor_139 (by decide) ?_
                  exact t_X1_readFactor_143  hr_X1_readLevel hr_X1_readFactor hr_X1_readBracket hF r39 1 σ40 _ _ _ h hP hS (lv_sub hl [2, 0] rfl)
              · have h := of_f h c35
                by_cases c43 : r1 = 274
                · have h := of_t h c43
                  refine lv_lookup (tgt := 80) hx hb dX1_readFactor_6 (by decide) (by rw [c43]; try rfl) (by decide) ?_
                  refine lv_aload_n hx hb dX1_readFactor_80 rfl (lv_at hl 1 rfl) ?_
                  refine gf_X1_15 hC hb hP dX1_readFactor_81 ?_
                  refine lv_sipush (v := 274) hx hb dX1_readFactor_84 (by decide) ?_
                  refine lv_aload_n hx hb dX1_readFactor_87 rfl (lv_at hl 1 rfl) ?_
                  refine gf_X1_9 hC hb hP dX1_readFactor_88 ?_
                  refine lv_aload_n hx hb dX1_readFactor_91 rfl (lv_at hl 1 rfl) ?_
                  refine gf_X1_43 hC hb hP dX1_readFactor_92 ?_
                  obtain ⟨r44, σ45, g46, h⟩ := of_bnd h
                  refine x_VL (As := [.int (gI σ2 260)]) (rest := [.int 274, .ref (E 2)]) hF hl hP hS (c_X7_contentOf g46) (cw_X1_107 hC rfl rfl ⟨by dsimp only [rm_X1R, rm_X7_contentOf]; omega, by dsimp only [rm_X1R, rm_X7_contentOf]; omega⟩) lc_1 rfl rfl rfl (Nat.le_of_ble_eq_true rfl) dX1_readFactor_95 ⟨Nat.zero_le _, Nat.zero_le _⟩ (fun H locs hP hS => ?_)
                  obtain ⟨r47, σ48, g49, h⟩ := of_bnd h
                  refine x_VV (As := [.int 274, .long r44]) (rest := []) hF hl hP hS (c_X0_add g49) (cw_X1_188 hC rfl rfl ⟨by dsimp only [rm_X1R, rm_X0_add]; omega, by dsimp only [rm_X1R, rm_X0_add]; omega⟩) lc_2 rfl rfl rfl (Nat.le_of_ble_eq_true rfl) dX1_readFactor_98 ⟨Nat.zero_le _, Nat.zero_le _⟩ (fun H locs hP hS => ?_)
                  refine lv_aload_n hx hb dX1_readFactor_101 rfl (lv_at hl 1 rfl) ?_
                  refine lv_dup hx hb dX1_readFactor_102 rfl ?_
                  refine gf_X1_43 hC hb hP dX1_readFactor_103 ?_
                  refine lv_iconst (v := 1) hx hb dX1_readFactor_106 (by decide) ?_
                  refine lv_iadd hx hb dX1_readFactor_107 ?_
                  refine pf_X1_43 hC hb hP hD hS dX1_readFactor_108 (fun H locs σ50 eσ50 hP hS => ?_)
                  have h := of_lt h eσ50
                  refine lv_goto (tgt := 275) hx hb dX1_readFactor_111 (by decide) ?_
                  exact t_X1_readFactor_275  hr_X1_readLevel hr_X1_readFactor hr_X1_readBracket hF σ50 _ _ _ h hP hS (lv_sub hl [] rfl)
                · have h := of_f h c43
                  refine lv_lookup (off := 260) (tgt := 266) hx hb dX1_readFactor_6 (by decide) (by rw [lv_osw c4 (by decide), lv_osw c8 (by decide), lv_osw c17 (by decide), lv_osw c26 (by decide), lv_osw c29 (by decide), lv_osw c32 (by decide), lv_osw c35 (by decide), lv_osw c43 (by decide)]; try rfl) (by decide) ?_
                  refine lv_aload_n hx hb dX1_readFactor_266 rfl (lv_at hl 1 rfl) ?_
                  refine lv_iconst (v := 1) hx hb dX1_readFactor_267 (by decide) ?_
                  refine lv_aload_n hx hb dX1_readFactor_268 rfl (lv_at hl 1 rfl) ?_
                  refine gf_X1_43 hC hb hP dX1_readFactor_269 ?_
                  obtain ⟨r51, σ52, g53, h⟩ := of_bnd h
                  refine x_VV (As := [.int 1, .int (gI σ2 260)]) (rest := []) hF hl hP hS (c_X1_fail g53) (cw_X1_47 hC rfl rfl ⟨by dsimp only [rm_X1R, rm_X1_fail]; omega, by dsimp only [rm_X1R, rm_X1_fail]; omega⟩) lc_4 rfl rfl rfl (Nat.le_of_ble_eq_true rfl) dX1_readFactor_272 ⟨Nat.zero_le _, Nat.zero_le _⟩ (fun H locs hP hS => ?_)
                  exact t_X1_readFactor_275  hr_X1_readLevel hr_X1_readFactor hr_X1_readBracket hF σ52 _ _ _ h hP hS (lv_sub hl [] rfl)

def f_X1_readBracket_53 (r_X1_readLevel : Int32 → Int32 → Sta → Option (Unit × Sta)) (r_X1_readFactor : Int32 → Sta → Option (Unit × Sta)) (r_X1_readBracket : Int32 → Int32 → Sta → Option (Unit × Sta)) (σ : Sta) : Option (Unit × Sta) :=
  some ((), σ)
set_option maxHeartbeats 4000000 in
set_option maxRecDepth 100000 in
theorem t_X1_readBracket_53 {l : Launch} {D : va_G} {Y : CYs} {E : Nat → Nat} {p : Program} {e : Env} {s : State} {m : MethodId} {args : Array Value} {below : List Frame} {meth : Method} {c : Code} {r_X1_readLevel : Int32 → Int32 → Sta → Option (Unit × Sta)} {r_X1_readFactor : Int32 → Sta → Option (Unit × Sta)} {r_X1_readBracket : Int32 → Int32 → Sta → Option (Unit × Sta)} {dd : Nat} (hr_X1_readLevel : ∀ (a1 : Int32) (a2 : Int32) (σ : Sta) (o : Unit × Sta), r_X1_readLevel a1 a2 σ = some o → MV l yX1_readLevel (Cond.code yX1_readLevel cX1_readLevel 6 none :: gW) (rm_X1R dd) LC Y D E [.ref (E 4), .int a1, .int a2] σ o) (hr_X1_readFactor : ∀ (a1 : Int32) (σ : Sta) (o : Unit × Sta), r_X1_readFactor a1 σ = some o → MV l yX1_readFactor (Cond.code yX1_readFactor cX1_readFactor 4 none :: gW) (rm_X1R dd) LC Y D E [.ref (E 4), .int a1] σ o) (hr_X1_readBracket : ∀ (a1 : Int32) (a2 : Int32) (σ : Sta) (o : Unit × Sta), r_X1_readBracket a1 a2 σ = some o → MV l yX1_readBracket (Cond.code yX1_readBracket cX1_readBracket 4 none :: gW) (rm_X1R dd) LC Y D E [.ref (E 4), .int a1, .int a2] σ o) (hF : Fr p s m args meth c RX1 cX1_readBracket 4 none D Y E LC) {o : Unit × Sta} : ∀ (σ : Sta) (H : Heap) (locs : List Loc) (ls : Array Slot), f_X1_readBracket_53 r_X1_readLevel r_X1_readFactor r_X1_readBracket σ = some o → va_P D vwCl (wd Y E σ 0 LC) H → va_S (AF E LC.length s.heap.size) s.heap H locs → lv_has ls 4 [] → WV p l e (rm_X1R (dd + 1)) s m args below meth c LC Y D E o H locs (F0 m 53 ls []) := by
  intro σ H locs ls h hP hS hl
  unfold f_X1_readBracket_53 at h
  obtain ⟨hC, hb, hml, hr, hlk, hD, hSW⟩ := id hF
  have hx := hC.1
  exact x_vret hF hP hS h dX1_readBracket_53

def f_X1_readBracket_20 (r_X1_readLevel : Int32 → Int32 → Sta → Option (Unit × Sta)) (r_X1_readFactor : Int32 → Sta → Option (Unit × Sta)) (r_X1_readBracket : Int32 → Int32 → Sta → Option (Unit × Sta)) : Nat → Int32 → Int32 → Int32 → Sta → Option (Unit × Sta)
  | 0, _, _, _, _ => none
  | n + 1, v1, v2, v3, σ => if v1 ≤ v3 then
      bnd (f_X1_expect 41 σ) (fun r2 σ3 =>
      f_X1_readBracket_53 r_X1_readLevel r_X1_readFactor r_X1_readBracket σ3)
    else
      bnd (f_X1_expect 44 σ) (fun r5 σ6 =>
      bnd (r_X1_readLevel 0 (v2 + 1) σ6) (fun _ σ9 =>
      lt (v3 + 1) (fun x11 =>
      f_X1_readBracket_20 r_X1_readLevel r_X1_readFactor r_X1_readBracket n v1 v2 x11 σ9)))
set_option maxHeartbeats 4000000 in
set_option maxRecDepth 100000 in
theorem t_X1_readBracket_20 {l : Launch} {D : va_G} {Y : CYs} {E : Nat → Nat} {p : Program} {e : Env} {s : State} {m : MethodId} {args : Array Value} {below : List Frame} {meth : Method} {c : Code} {r_X1_readLevel : Int32 → Int32 → Sta → Option (Unit × Sta)} {r_X1_readFactor : Int32 → Sta → Option (Unit × Sta)} {r_X1_readBracket : Int32 → Int32 → Sta → Option (Unit × Sta)} {dd : Nat} (hr_X1_readLevel : ∀ (a1 : Int32) (a2 : Int32) (σ : Sta) (o : Unit × Sta), r_X1_readLevel a1 a2 σ = some o → MV l yX1_readLevel (Cond.code yX1_readLevel cX1_readLevel 6 none :: gW) (rm_X1R dd) LC Y D E [.ref (E 4), .int a1, .int a2] σ o) (hr_X1_readFactor : ∀ (a1 : Int32) (σ : Sta) (o : Unit × Sta), r_X1_readFactor a1 σ = some o → MV l yX1_readFactor (Cond.code yX1_readFactor cX1_readFactor 4 none :: gW) (rm_X1R dd) LC Y D E [.ref (E 4), .int a1] σ o) (hr_X1_readBracket : ∀ (a1 : Int32) (a2 : Int32) (σ : Sta) (o : Unit × Sta), r_X1_readBracket a1 a2 σ = some o → MV l yX1_readBracket (Cond.code yX1_readBracket cX1_readBracket 4 none :: gW) (rm_X1R dd) LC Y D E [.ref (E 4), .int a1, .int a2] σ o) (hF : Fr p s m args meth c RX1 cX1_readBracket 4 none D Y E LC) {o : Unit × Sta} : ∀ (n : Nat) (v1 : Int32) (v2 : Int32) (v3 : Int32) (σ : Sta) (H : Heap) (locs : List Loc) (ls : Array Slot), f_X1_readBracket_20 r_X1_readLevel r_X1_readFactor r_X1_readBracket n v1 v2 v3 σ = some o → va_P D vwCl (wd Y E σ 0 LC) H → va_S (AF E LC.length s.heap.size) s.heap H locs → lv_has ls 4 [(0, .ref (E 4)), (1, .int v1), (2, .int v2), (3, .int v3)] → WV p l e (rm_X1R (dd + 1)) s m args below meth c LC Y D E o H locs (F0 m 20 ls []) := by
  intro n
  induction n with
  | zero =>
    intro v1 v2 v3 σ H locs ls h hP hS hl
    exact nomatch (show (none : Option (Unit × Sta)) = some o from h)
  | succ n ih =>
    intro v1 v2 v3 σ H locs ls h hP hS hl
    rw [f_X1_readBracket_20] at h
    obtain ⟨hC, hb, hml, hr, hlk, hD, hSW⟩ := id hF
    have hx := hC.1
    refine lv_iload_n hx hb dX1_readBracket_20 rfl (lv_at hl 3 rfl) ?_
    refine lv_iload_n hx hb dX1_readBracket_21 rfl (lv_at hl 1 rfl) ?_
    refine lv_icmp_ge (tgt := 46) hx hb dX1_readBracket_22 (by decide) (fun c1 => ?_) (fun c1 => ?_)
    · have h := of_t h c1
      refine lv_aload_n hx hb dX1_readBracket_46 rfl (lv_at hl 0 rfl) ?_
      refine lv_bipush (v := 41) hx hb dX1_readBracket_47 (by decide) ?_
      obtain ⟨r2, σ3, g4, h⟩ := of_bnd h
      refine x_VI (As := [.int 41]) (rest := []) hF hl hP hS (c_X1_expect g4) (cw_X1_89 hC rfl rfl ⟨by dsimp only [rm_X1R, rm_X1_expect]; omega, by dsimp only [rm_X1R, rm_X1_expect]; omega⟩) lc_4 rfl rfl rfl (Nat.le_of_ble_eq_true rfl) dX1_readBracket_49 ⟨Nat.zero_le _, Nat.zero_le _⟩ (fun H locs hP hS => ?_)
      refine lv_pop hx hb dX1_readBracket_52 rfl ?_
      exact t_X1_readBracket_53  hr_X1_readLevel hr_X1_readFactor hr_X1_readBracket hF σ3 _ _ _ h hP hS (lv_sub hl [] rfl)
    · have h := of_f h c1
      refine lv_aload_n hx hb dX1_readBracket_25 rfl (lv_at hl 0 rfl) ?_
      refine lv_bipush (v := 44) hx hb dX1_readBracket_26 (by decide) ?_
      obtain ⟨r5, σ6, g7, h⟩ := of_bnd h
      refine x_VI (As := [.int 44]) (rest := []) hF hl hP hS (c_X1_expect g7) (cw_X1_89 hC rfl rfl ⟨by dsimp only [rm_X1R, rm_X1_expect]; omega, by dsimp only [rm_X1R, rm_X1_expect]; omega⟩) lc_4 rfl rfl rfl (Nat.le_of_ble_eq_true rfl) dX1_readBracket_28 ⟨Nat.zero_le _, Nat.zero_le _⟩ (fun H locs hP hS => ?_)
      refine lv_pop hx hb dX1_readBracket_31 rfl ?_
      refine lv_aload_n hx hb dX1_readBracket_32 rfl (lv_at hl 0 rfl) ?_
      refine lv_iconst (v := 0) hx hb dX1_readBracket_33 (by decide) ?_
      refine lv_iload_n hx hb dX1_readBracket_34 rfl (lv_at hl 2 rfl) ?_
      refine lv_iconst (v := 1) hx hb dX1_readBracket_35 (by decide) ?_
      refine lv_iadd hx hb dX1_readBracket_36 ?_
      obtain ⟨r8, σ9, g10, h⟩ := of_bnd h
      refine x_VV (As := [.int 0, .int (v2 + 1)]) (rest := []) hF hl hP hS (hr_X1_readLevel _ _ _ _ g10) (cw_X1_179 hC rfl rfl ⟨by dsimp only [rm_X1R, rm_X1R]; omega, by dsimp only [rm_X1R, rm_X1R]; omega⟩) lc_4 rfl rfl rfl (Nat.le_of_ble_eq_true rfl) dX1_readBracket_37 ⟨Nat.zero_le _, Nat.zero_le _⟩ (fun H locs hP hS => ?_)
      obtain ⟨x11, ex11⟩ : ∃ y : Int32, y = v3 + 1 := ⟨_, rfl⟩
      have h := of_lt h ex11
      refine lv_iinc (v := x11) (lv' := [(3, .int x11), (0, .ref (E 4)), (1, .int v1), (2, .int v2)]) hx hb dX1_readBracket_40 hl (k := 3) rfl (by rw [ex11]; rfl) (by decide) rfl (fun ls hl => ?_)
      refine lv_goto (tgt := 20) hx hb dX1_readBracket_43 (by decide) ?_
      exact ih v1 v2 x11 σ9 _ _ _ h hP hS (lv_sub hl [1, 2, 3, 0] rfl)

def fb_X1_readBracket (r_X1_readLevel : Int32 → Int32 → Sta → Option (Unit × Sta)) (r_X1_readFactor : Int32 → Sta → Option (Unit × Sta)) (r_X1_readBracket : Int32 → Int32 → Sta → Option (Unit × Sta)) (a1 : Int32) (a2 : Int32) (σ : Sta) : Option (Unit × Sta) :=
  bnd (f_X1_acceptDeeper 40 a2 σ) (fun r1 σ2 =>
  if r1 = 0 then
    f_X1_readBracket_53 r_X1_readLevel r_X1_readFactor r_X1_readBracket σ2
  else
    bnd (r_X1_readLevel 0 (a2 + 1) σ2) (fun _ σ6 =>
    f_X1_readBracket_20 r_X1_readLevel r_X1_readFactor r_X1_readBracket FU a1 a2 1 σ6))
set_option maxHeartbeats 4000000 in
set_option maxRecDepth 100000 in
theorem cb_X1_readBracket {l : Launch} {D : va_G} {Y : CYs} {E : Nat → Nat} {r_X1_readLevel : Int32 → Int32 → Sta → Option (Unit × Sta)} {r_X1_readFactor : Int32 → Sta → Option (Unit × Sta)} {r_X1_readBracket : Int32 → Int32 → Sta → Option (Unit × Sta)} {a1 : Int32} {a2 : Int32} {dd : Nat} (hr_X1_readLevel : ∀ (a1 : Int32) (a2 : Int32) (σ : Sta) (o : Unit × Sta), r_X1_readLevel a1 a2 σ = some o → MV l yX1_readLevel (Cond.code yX1_readLevel cX1_readLevel 6 none :: gW) (rm_X1R dd) LC Y D E [.ref (E 4), .int a1, .int a2] σ o) (hr_X1_readFactor : ∀ (a1 : Int32) (σ : Sta) (o : Unit × Sta), r_X1_readFactor a1 σ = some o → MV l yX1_readFactor (Cond.code yX1_readFactor cX1_readFactor 4 none :: gW) (rm_X1R dd) LC Y D E [.ref (E 4), .int a1] σ o) (hr_X1_readBracket : ∀ (a1 : Int32) (a2 : Int32) (σ : Sta) (o : Unit × Sta), r_X1_readBracket a1 a2 σ = some o → MV l yX1_readBracket (Cond.code yX1_readBracket cX1_readBracket 4 none :: gW) (rm_X1R dd) LC Y D E [.ref (E 4), .int a1, .int a2] σ o) {σ : Sta} {o : Unit × Sta} (h : fb_X1_readBracket r_X1_readLevel r_X1_readFactor r_X1_readBracket a1 a2 σ = some o) : MV l yX1_readBracket (Cond.code yX1_readBracket cX1_readBracket 4 none :: gW) (rm_X1R (dd + 1)) LC Y D E [.ref (E 4), .int a1, .int a2] σ o := by
  intro sz
  refine Met_of (Qc := fun sz => QV LC Y D E sz o) (by decide) (Nat.le_of_ble_eq_true rfl) (fun p e s m args below meth c hF hP ls hl => ?_) sz
  have hS : va_S (AF E LC.length s.heap.size) s.heap s.heap [] := va_S.rf
  have hl : lv_has ls 4 [(0, .ref (E 4)), (1, .int a1), (2, .int a2)] := hl
  show WV p l e (rm_X1R (dd + 1)) s m args below meth c LC Y D E o s.heap [] (F0 m 0 ls [])
  unfold fb_X1_readBracket at h
  obtain ⟨hC, hb, hml, hr, hlk, hD, hSW⟩ := id hF
  have hx := hC.1
  refine lv_aload_n hx hb dX1_readBracket_0 rfl (lv_at hl 0 rfl) ?_
  refine lv_bipush (v := 40) hx hb dX1_readBracket_1 (by decide) ?_
  refine lv_iload_n hx hb dX1_readBracket_3 rfl (lv_at hl 2 rfl) ?_
  obtain ⟨r1, σ2, g3, h⟩ := of_bnd h
  refine x_VI (As := [.int 40, .int a2]) (rest := []) hF hl hP hS (c_X1_acceptDeeper g3) (cw_X1_195 hC rfl rfl ⟨by dsimp only [rm_X1R, rm_X1_acceptDeeper]; omega, by dsimp only [rm_X1R, rm_X1_acceptDeeper]; omega⟩) lc_4 rfl rfl rfl (Nat.le_of_ble_eq_true rfl) dX1_readBracket_4 ⟨Nat.zero_le _, Nat.zero_le _⟩ (fun H locs hP hS => ?_)
  refine lv_if_eq (tgt := 53) hx hb dX1_readBracket_7 (by decide) (fun c4 => ?_) (fun c4 => ?_)
  · have h := of_t h c4
    exact t_X1_readBracket_53  hr_X1_readLevel hr_X1_readFactor hr_X1_readBracket hF σ2 _ _ _ h hP hS (lv_sub hl [] rfl)
  · have h := of_f h c4
    refine lv_aload_n hx hb dX1_readBracket_10 rfl (lv_at hl 0 rfl) ?_
    refine lv_iconst (v := 0) hx hb dX1_readBracket_11 (by decide) ?_
    refine lv_iload_n hx hb dX1_readBracket_12 rfl (lv_at hl 2 rfl) ?_
    refine lv_iconst (v := 1) hx hb dX1_readBracket_13 (by decide) ?_
    refine lv_iadd hx hb dX1_readBracket_14 ?_
    obtain ⟨r5, σ6, g7, h⟩ := of_bnd h
    refine x_VV (As := [.int 0, .int (a2 + 1)]) (rest := []) hF hl hP hS (hr_X1_readLevel _ _ _ _ g7) (cw_X1_179 hC rfl rfl ⟨by dsimp only [rm_X1R, rm_X1R]; omega, by dsimp only [rm_X1R, rm_X1R]; omega⟩) lc_4 rfl rfl rfl (Nat.le_of_ble_eq_true rfl) dX1_readBracket_15 ⟨Nat.zero_le _, Nat.zero_le _⟩ (fun H locs hP hS => ?_)
    refine lv_iconst (v := 1) hx hb dX1_readBracket_18 (by decide) ?_
    refine lv_istore_n (lv' := [(3, .int 1), (0, .ref (E 4)), (1, .int a1), (2, .int a2)]) hx hb dX1_readBracket_19 rfl hl (by decide) rfl (fun ls hl => ?_)
    exact t_X1_readBracket_20  hr_X1_readLevel hr_X1_readFactor hr_X1_readBracket hF FU a1 a2 1 σ6 _ _ _ h hP hS (lv_sub hl [1, 2, 3, 0] rfl)

def fr_X1R : Nat → (Int32 → Int32 → Sta → Option (Unit × Sta)) × (Int32 → Sta → Option (Unit × Sta)) × (Int32 → Int32 → Sta → Option (Unit × Sta))
  | 0 => (fun _ _ _ => none, fun _ _ => none, fun _ _ _ => none)
  | n + 1 => (fb_X1_readLevel (fr_X1R n).1 (fr_X1R n).2.1 (fr_X1R n).2.2, fb_X1_readFactor (fr_X1R n).1 (fr_X1R n).2.1 (fr_X1R n).2.2, fb_X1_readBracket (fr_X1R n).1 (fr_X1R n).2.1 (fr_X1R n).2.2)

theorem c_X1R {l : Launch} {D : va_G} {Y : CYs} {E : Nat → Nat} : ∀ d : Nat, (∀ (a1 : Int32) (a2 : Int32) (σ : Sta) (o : Unit × Sta), (fr_X1R d).1 a1 a2 σ = some o → MV l yX1_readLevel (Cond.code yX1_readLevel cX1_readLevel 6 none :: gW) (rm_X1R d) LC Y D E [.ref (E 4), .int a1, .int a2] σ o) ∧ (∀ (a1 : Int32) (σ : Sta) (o : Unit × Sta), (fr_X1R d).2.1 a1 σ = some o → MV l yX1_readFactor (Cond.code yX1_readFactor cX1_readFactor 4 none :: gW) (rm_X1R d) LC Y D E [.ref (E 4), .int a1] σ o) ∧ (∀ (a1 : Int32) (a2 : Int32) (σ : Sta) (o : Unit × Sta), (fr_X1R d).2.2 a1 a2 σ = some o → MV l yX1_readBracket (Cond.code yX1_readBracket cX1_readBracket 4 none :: gW) (rm_X1R d) LC Y D E [.ref (E 4), .int a1, .int a2] σ o) := by
  intro d
  induction d with
  | zero => exact ⟨fun _ _ _ _ h => (nomatch (show (none : Option (Unit × Sta)) = some _ from h)), fun _ _ _ h => (nomatch (show (none : Option (Unit × Sta)) = some _ from h)), fun _ _ _ _ h => (nomatch (show (none : Option (Unit × Sta)) = some _ from h))⟩
  | succ n ih => exact ⟨fun _ _ _ _ h => cb_X1_readLevel ih.1 ih.2.1 ih.2.2 h, fun _ _ _ h => cb_X1_readFactor ih.1 ih.2.1 ih.2.2 h, fun _ _ _ _ h => cb_X1_readBracket ih.1 ih.2.1 ih.2.2 h⟩

abbrev rm_X1_readLevel : Room := { frames := 102, cells := 0, slots := 0, locals := 4046 }

def f_X1_readLevel (a1 : Int32) (a2 : Int32) (σ : Sta) : Option (Unit × Sta) := (fr_X1R 100).1 a1 a2 σ

theorem c_X1_readLevel {l : Launch} {D : va_G} {Y : CYs} {E : Nat → Nat} {a1 : Int32} {a2 : Int32} {σ : Sta} {o : Unit × Sta} (h : f_X1_readLevel a1 a2 σ = some o) : MV l yX1_readLevel (Cond.code yX1_readLevel cX1_readLevel 6 none :: gW) rm_X1_readLevel LC Y D E [.ref (E 4), .int a1, .int a2] σ o := (c_X1R 100).1 _ _ _ _ h

abbrev rm_X1_readFactor : Room := { frames := 102, cells := 0, slots := 0, locals := 4046 }

def f_X1_readFactor (a1 : Int32) (σ : Sta) : Option (Unit × Sta) := (fr_X1R 100).2.1 a1 σ

theorem c_X1_readFactor {l : Launch} {D : va_G} {Y : CYs} {E : Nat → Nat} {a1 : Int32} {σ : Sta} {o : Unit × Sta} (h : f_X1_readFactor a1 σ = some o) : MV l yX1_readFactor (Cond.code yX1_readFactor cX1_readFactor 4 none :: gW) rm_X1_readFactor LC Y D E [.ref (E 4), .int a1] σ o := (c_X1R 100).2.1 _ _ _ h

abbrev rm_X1_readBracket : Room := { frames := 102, cells := 0, slots := 0, locals := 4046 }

def f_X1_readBracket (a1 : Int32) (a2 : Int32) (σ : Sta) : Option (Unit × Sta) := (fr_X1R 100).2.2 a1 a2 σ

theorem c_X1_readBracket {l : Launch} {D : va_G} {Y : CYs} {E : Nat → Nat} {a1 : Int32} {a2 : Int32} {σ : Sta} {o : Unit × Sta} (h : f_X1_readBracket a1 a2 σ = some o) : MV l yX1_readBracket (Cond.code yX1_readBracket cX1_readBracket 4 none :: gW) rm_X1_readBracket LC Y D E [.ref (E 4), .int a1, .int a2] σ o := (c_X1R 100).2.2 _ _ _ _ h

abbrev rm_X1_readExpression : Room := { frames := 103, cells := 0, slots := 0, locals := 4071 }
def f_X1_readExpression (σ : Sta) : Option (Int32 × Sta) :=
  lt (sI σ 261 (if gI σ 67 < (gI σ 260) + 60 then gI σ 67 else (gI σ 260) + 60)) (fun σ1 =>
  bnd (f_X0_beginExpression σ1) (fun r2 σ3 =>
  bnd (f_X1_readLevel 0 0 σ3) (fun _ σ6 =>
  lt (sI σ6 261 (gI σ6 67)) (fun σ8 =>
  some (r2, σ8)))))
set_option maxHeartbeats 4000000 in
set_option maxRecDepth 100000 in
theorem c_X1_readExpression {l : Launch} {D : va_G} {Y : CYs} {E : Nat → Nat} {σ : Sta} {o : Int32 × Sta} (h : f_X1_readExpression σ = some o) : MI l yX1_readExpression (Cond.code yX1_readExpression cX1_readExpression 2 (some .int) :: gW) rm_X1_readExpression LC Y D E [.ref (E 4)] σ o := by
  intro sz
  refine Met_of (Qc := fun sz => QI LC Y D E sz o) (by decide) (Nat.le_of_ble_eq_true rfl) (fun p e s m args below meth c hF hP ls hl => ?_) sz
  have hS : va_S (AF E LC.length s.heap.size) s.heap s.heap [] := va_S.rf
  have hl : lv_has ls 2 [(0, .ref (E 4))] := hl
  show WI p l e rm_X1_readExpression s m args below meth c LC Y D E o s.heap [] (F0 m 0 ls [])
  unfold f_X1_readExpression at h
  obtain ⟨hC, hb, hml, hr, hlk, hD, hSW⟩ := id hF
  have hx := hC.1
  refine lv_aload_n hx hb dX1_readExpression_0 rfl (lv_at hl 0 rfl) ?_
  refine lv_aload_n hx hb dX1_readExpression_1 rfl (lv_at hl 0 rfl) ?_
  refine gf_X1_43 hC hb hP dX1_readExpression_2 ?_
  refine lv_bipush (v := 60) hx hb dX1_readExpression_5 (by decide) ?_
  refine lv_iadd hx hb dX1_readExpression_7 ?_
  refine lv_aload_n hx hb dX1_readExpression_8 rfl (lv_at hl 0 rfl) ?_
  refine gf_X1_9 hC hb hP dX1_readExpression_9 ?_
  refine gf_X1_73 hC hb hP dX1_readExpression_12 ?_
  refine va_mmin hx hb (by rw [hml]; exact hl.1.symm) hC.2.2.1 (hC.2.1 (Cond.methodLink RX1 170 Lib.Math.min.name) (gw_t (tb6 (List.mem_of_getElem? (i := 16) rfl)) rfl)) (hC.2.1 (Cond.static Lib.Math.min.name) (gw_t (tb4 (List.mem_of_getElem? (i := 73) rfl)) rfl)) (hC.2.1 (Cond.initialized "java/lang/Math") (gw_t (tb1 (List.mem_of_getElem? (i := 16) rfl)) rfl)) (hC.2.1 (Cond.code Lib.Math.min.name Lib.Math.min.code 2 (some .int)) (gw_t (tb4 (List.mem_of_getElem? (i := 74) rfl)) rfl)) (Nat.le_of_ble_eq_true rfl) (Nat.le_of_ble_eq_true rfl) (Nat.zero_le _) (Nat.zero_le _) dX1_readExpression_15 ?_
  refine pf_X1_78 hC hb hP hD hS dX1_readExpression_18 (fun H locs σ1 eσ1 hP hS => ?_)
  have h := of_lt h eσ1
  refine lv_aload_n hx hb dX1_readExpression_21 rfl (lv_at hl 0 rfl) ?_
  refine gf_X1_15 hC hb hP dX1_readExpression_22 ?_
  obtain ⟨r2, σ3, g4, h⟩ := of_bnd h
  refine x_VI (As := []) (rest := []) hF hl hP hS (c_X0_beginExpression g4) (cw_X1_176 hC rfl rfl ⟨Nat.le_of_ble_eq_true rfl, Nat.le_of_ble_eq_true rfl⟩) lc_2 rfl rfl rfl (Nat.le_of_ble_eq_true rfl) dX1_readExpression_25 ⟨Nat.zero_le _, Nat.zero_le _⟩ (fun H locs hP hS => ?_)
  refine lv_istore_n (lv' := [(1, .int r2), (0, .ref (E 4))]) hx hb dX1_readExpression_28 rfl hl (by decide) rfl (fun ls hl => ?_)
  refine lv_aload_n hx hb dX1_readExpression_29 rfl (lv_at hl 1 rfl) ?_
  refine lv_iconst (v := 0) hx hb dX1_readExpression_30 (by decide) ?_
  refine lv_iconst (v := 0) hx hb dX1_readExpression_31 (by decide) ?_
  obtain ⟨r5, σ6, g7, h⟩ := of_bnd h
  refine x_VV (As := [.int 0, .int 0]) (rest := []) hF hl hP hS (c_X1_readLevel g7) (cw_X1_179 hC rfl rfl ⟨Nat.le_of_ble_eq_true rfl, Nat.le_of_ble_eq_true rfl⟩) lc_4 rfl rfl rfl (Nat.le_of_ble_eq_true rfl) dX1_readExpression_32 ⟨Nat.zero_le _, Nat.zero_le _⟩ (fun H locs hP hS => ?_)
  refine lv_aload_n hx hb dX1_readExpression_35 rfl (lv_at hl 1 rfl) ?_
  refine lv_aload_n hx hb dX1_readExpression_36 rfl (lv_at hl 1 rfl) ?_
  refine gf_X1_9 hC hb hP dX1_readExpression_37 ?_
  refine gf_X1_73 hC hb hP dX1_readExpression_40 ?_
  refine pf_X1_78 hC hb hP hD hS dX1_readExpression_43 (fun H locs σ8 eσ8 hP hS => ?_)
  have h := of_lt h eσ8
  refine lv_iload_n hx hb dX1_readExpression_46 rfl (lv_at hl 0 rfl) ?_
  exact x_iret hF hP hS h dX1_readExpression_47

abbrev rm_X1_readGain : Room := { frames := 104, cells := 0, slots := 0, locals := 4092 }
def f_X1_readGain_137 (σ : Sta) : Option (Unit × Sta) :=
  some ((), σ)
set_option maxHeartbeats 4000000 in
set_option maxRecDepth 100000 in
theorem t_X1_readGain_137 {l : Launch} {D : va_G} {Y : CYs} {E : Nat → Nat} {p : Program} {e : Env} {s : State} {m : MethodId} {args : Array Value} {below : List Frame} {meth : Method} {c : Code} (hF : Fr p s m args meth c RX1 cX1_readGain 4 none D Y E LC) {o : Unit × Sta} : ∀ (σ : Sta) (H : Heap) (locs : List Loc) (ls : Array Slot), f_X1_readGain_137 σ = some o → va_P D vwCl (wd Y E σ 0 LC) H → va_S (AF E LC.length s.heap.size) s.heap H locs → lv_has ls 4 [] → WV p l e rm_X1_readGain s m args below meth c LC Y D E o H locs (F0 m 137 ls []) := by
  intro σ H locs ls h hP hS hl
  unfold f_X1_readGain_137 at h
  obtain ⟨hC, hb, hml, hr, hlk, hD, hSW⟩ := id hF
  have hx := hC.1
  exact x_vret hF hP hS h dX1_readGain_137

def f_X1_readGain_94 (v1 : Int32) (v2 : Int32) (σ : Sta) : Option (Unit × Sta) :=
  bnd (f_X1_expect 61 σ) (fun r1 σ2 =>
  bnd (f_X1_readExpression σ2) (fun r4 σ5 =>
  bnd (f_X1_expect 59 σ5) (fun r7 σ8 =>
  bnd (f_X1_isMeaningRight σ8) (fun r10 σ11 =>
  if r10 = 0 then
    f_X1_readGain_137 σ11
  else
    bnd (f_X7_contentOf v1 σ11) (fun r14 σ15 =>
    bnd (f_X4_addGain r14 v2 r4 σ15) (fun _ σ18 =>
    f_X1_readGain_137 σ18))))))
set_option maxHeartbeats 4000000 in
set_option maxRecDepth 100000 in
theorem t_X1_readGain_94 {l : Launch} {D : va_G} {Y : CYs} {E : Nat → Nat} {p : Program} {e : Env} {s : State} {m : MethodId} {args : Array Value} {below : List Frame} {meth : Method} {c : Code} (hF : Fr p s m args meth c RX1 cX1_readGain 4 none D Y E LC) {o : Unit × Sta} : ∀ (v1 : Int32) (v2 : Int32) (σ : Sta) (H : Heap) (locs : List Loc) (ls : Array Slot), f_X1_readGain_94 v1 v2 σ = some o → va_P D vwCl (wd Y E σ 0 LC) H → va_S (AF E LC.length s.heap.size) s.heap H locs → lv_has ls 4 [(0, .ref (E 4)), (1, .int v1), (2, .int v2)] → WV p l e rm_X1_readGain s m args below meth c LC Y D E o H locs (F0 m 94 ls []) := by
  intro v1 v2 σ H locs ls h hP hS hl
  unfold f_X1_readGain_94 at h
  obtain ⟨hC, hb, hml, hr, hlk, hD, hSW⟩ := id hF
  have hx := hC.1
  refine lv_aload_n hx hb dX1_readGain_94 rfl (lv_at hl 0 rfl) ?_
  refine lv_bipush (v := 61) hx hb dX1_readGain_95 (by decide) ?_
  obtain ⟨r1, σ2, g3, h⟩ := of_bnd h
  refine x_VI (As := [.int 61]) (rest := []) hF hl hP hS (c_X1_expect g3) (cw_X1_89 hC rfl rfl ⟨Nat.le_of_ble_eq_true rfl, Nat.le_of_ble_eq_true rfl⟩) lc_4 rfl rfl rfl (Nat.le_of_ble_eq_true rfl) dX1_readGain_97 ⟨Nat.zero_le _, Nat.zero_le _⟩ (fun H locs hP hS => ?_)
  refine lv_pop hx hb dX1_readGain_100 rfl ?_
  refine lv_aload_n hx hb dX1_readGain_101 rfl (lv_at hl 0 rfl) ?_
  obtain ⟨r4, σ5, g6, h⟩ := of_bnd h
  refine x_VI (As := []) (rest := []) hF hl hP hS (c_X1_readExpression g6) (cw_X1_66 hC rfl rfl ⟨Nat.le_of_ble_eq_true rfl, Nat.le_of_ble_eq_true rfl⟩) lc_4 rfl rfl rfl (Nat.le_of_ble_eq_true rfl) dX1_readGain_102 ⟨Nat.zero_le _, Nat.zero_le _⟩ (fun H locs hP hS => ?_)
  refine lv_istore_n (lv' := [(3, .int r4), (0, .ref (E 4)), (1, .int v1), (2, .int v2)]) hx hb dX1_readGain_105 rfl hl (by decide) rfl (fun ls hl => ?_)
  refine lv_aload_n hx hb dX1_readGain_106 rfl (lv_at hl 1 rfl) ?_
  refine lv_bipush (v := 59) hx hb dX1_readGain_107 (by decide) ?_
  obtain ⟨r7, σ8, g9, h⟩ := of_bnd h
  refine x_VI (As := [.int 59]) (rest := []) hF hl hP hS (c_X1_expect g9) (cw_X1_89 hC rfl rfl ⟨Nat.le_of_ble_eq_true rfl, Nat.le_of_ble_eq_true rfl⟩) lc_4 rfl rfl rfl (Nat.le_of_ble_eq_true rfl) dX1_readGain_109 ⟨Nat.zero_le _, Nat.zero_le _⟩ (fun H locs hP hS => ?_)
  refine lv_pop hx hb dX1_readGain_112 rfl ?_
  refine lv_aload_n hx hb dX1_readGain_113 rfl (lv_at hl 1 rfl) ?_
  obtain ⟨r10, σ11, g12, h⟩ := of_bnd h
  refine x_VI (As := []) (rest := []) hF hl hP hS (c_X1_isMeaningRight g12) (cw_X1_103 hC rfl rfl ⟨Nat.le_of_ble_eq_true rfl, Nat.le_of_ble_eq_true rfl⟩) lc_4 rfl rfl rfl (Nat.le_of_ble_eq_true rfl) dX1_readGain_114 ⟨Nat.zero_le _, Nat.zero_le _⟩ (fun H locs hP hS => ?_)
  refine lv_if_eq (tgt := 137) hx hb dX1_readGain_117 (by decide) (fun c13 => ?_) (fun c13 => ?_)
  · have h := of_t h c13
    exact t_X1_readGain_137  hF σ11 _ _ _ h hP hS (lv_sub hl [] rfl)
  · have h := of_f h c13
    refine lv_aload_n hx hb dX1_readGain_120 rfl (lv_at hl 1 rfl) ?_
    refine gf_X1_19 hC hb hP dX1_readGain_121 ?_
    refine lv_aload_n hx hb dX1_readGain_124 rfl (lv_at hl 1 rfl) ?_
    refine gf_X1_9 hC hb hP dX1_readGain_125 ?_
    refine lv_iload_n hx hb dX1_readGain_128 rfl (lv_at hl 2 rfl) ?_
    obtain ⟨r14, σ15, g16, h⟩ := of_bnd h
    refine x_VL (As := [.int v1]) (rest := [.ref (E 3)]) hF hl hP hS (c_X7_contentOf g16) (cw_X1_107 hC rfl rfl ⟨Nat.le_of_ble_eq_true rfl, Nat.le_of_ble_eq_true rfl⟩) lc_1 rfl rfl rfl (Nat.le_of_ble_eq_true rfl) dX1_readGain_129 ⟨Nat.zero_le _, Nat.zero_le _⟩ (fun H locs hP hS => ?_)
    refine lv_iload_n hx hb dX1_readGain_132 rfl (lv_at hl 3 rfl) ?_
    refine lv_iload_n hx hb dX1_readGain_133 rfl (lv_at hl 0 rfl) ?_
    obtain ⟨r17, σ18, g19, h⟩ := of_bnd h
    refine x_VV (As := [.long r14, .int v2, .int r4]) (rest := []) hF hl hP hS (c_X4_addGain g19) (cw_X1_126 hC rfl rfl ⟨Nat.le_of_ble_eq_true rfl, Nat.le_of_ble_eq_true rfl⟩) lc_3 rfl rfl rfl (Nat.le_of_ble_eq_true rfl) dX1_readGain_134 ⟨Nat.zero_le _, Nat.zero_le _⟩ (fun H locs hP hS => ?_)
    exact t_X1_readGain_137  hF σ18 _ _ _ h hP hS (lv_sub hl [] rfl)

def f_X1_readGain_89 (v1 : Int32) (v2 : Int32) (v3 : Int32) (s0 : Int32) (σ : Sta) : Option (Unit × Sta) :=
  bnd (f_X1_demand s0 2 v3 σ) (fun _ σ2 =>
  f_X1_readGain_94 v1 v2 σ2)
set_option maxHeartbeats 4000000 in
set_option maxRecDepth 100000 in
theorem t_X1_readGain_89 {l : Launch} {D : va_G} {Y : CYs} {E : Nat → Nat} {p : Program} {e : Env} {s : State} {m : MethodId} {args : Array Value} {below : List Frame} {meth : Method} {c : Code} (hF : Fr p s m args meth c RX1 cX1_readGain 4 none D Y E LC) {o : Unit × Sta} : ∀ (v1 : Int32) (v2 : Int32) (v3 : Int32) (s0 : Int32) (σ : Sta) (H : Heap) (locs : List Loc) (ls : Array Slot), f_X1_readGain_89 v1 v2 v3 s0 σ = some o → va_P D vwCl (wd Y E σ 0 LC) H → va_S (AF E LC.length s.heap.size) s.heap H locs → lv_has ls 4 [(0, .ref (E 4)), (1, .int v1), (2, .int v2), (3, .int v3)] → WV p l e rm_X1_readGain s m args below meth c LC Y D E o H locs (F0 m 89 ls [.int s0, .ref (E 4)]) := by
  intro v1 v2 v3 s0 σ H locs ls h hP hS hl
  unfold f_X1_readGain_89 at h
  obtain ⟨hC, hb, hml, hr, hlk, hD, hSW⟩ := id hF
  have hx := hC.1
  refine lv_iconst (v := 2) hx hb dX1_readGain_89 (by decide) ?_
  refine lv_iload_n hx hb dX1_readGain_90 rfl (lv_at hl 3 rfl) ?_
  obtain ⟨r1, σ2, g3, h⟩ := of_bnd h
  refine x_VV (As := [.int s0, .int 2, .int v3]) (rest := []) hF hl hP hS (c_X1_demand g3) (cw_X1_62 hC rfl rfl ⟨Nat.le_of_ble_eq_true rfl, Nat.le_of_ble_eq_true rfl⟩) lc_4 rfl rfl rfl (Nat.le_of_ble_eq_true rfl) dX1_readGain_91 ⟨Nat.zero_le _, Nat.zero_le _⟩ (fun H locs hP hS => ?_)
  exact t_X1_readGain_94  hF v1 v2 σ2 _ _ _ h hP hS (lv_sub hl [0, 1, 2] rfl)

def f_X1_readGain_17 (s0 : Int32) (σ : Sta) : Option (Unit × Sta) :=
  bnd (f_X1_demand s0 4 (gI σ 260) σ) (fun _ σ2 =>
  bnd (f_X1_expect 259 σ2) (fun r4 σ5 =>
  bnd (f_X1_expect 273 σ5) (fun r7 σ8 =>
  bnd (f_X1_demandNewName r7 σ8) (fun _ σ11 =>
  lt (-1) (fun x13 =>
  bnd (f_X1_accept 260 σ11) (fun r14 σ15 =>
  if r14 = 0 then
    f_X1_readGain_94 r7 x13 σ15
  else
    bnd (f_X1_expect 273 σ15) (fun r18 σ19 =>
    bnd (f_X7_contentOf r18 σ19) (fun r21 σ22 =>
    bnd (f_X1_commandNamed r21 σ22) (fun r24 σ25 =>
    if r24 < 0 then
      f_X1_readGain_89 r7 r24 r18 0 σ25
    else
      f_X1_readGain_89 r7 r24 r18 1 σ25)))))))))
set_option maxHeartbeats 4000000 in
set_option maxRecDepth 100000 in
theorem t_X1_readGain_17 {l : Launch} {D : va_G} {Y : CYs} {E : Nat → Nat} {p : Program} {e : Env} {s : State} {m : MethodId} {args : Array Value} {below : List Frame} {meth : Method} {c : Code} (hF : Fr p s m args meth c RX1 cX1_readGain 4 none D Y E LC) {o : Unit × Sta} : ∀ (s0 : Int32) (σ : Sta) (H : Heap) (locs : List Loc) (ls : Array Slot), f_X1_readGain_17 s0 σ = some o → va_P D vwCl (wd Y E σ 0 LC) H → va_S (AF E LC.length s.heap.size) s.heap H locs → lv_has ls 4 [(0, .ref (E 4))] → WV p l e rm_X1_readGain s m args below meth c LC Y D E o H locs (F0 m 17 ls [.int s0, .ref (E 4)]) := by
  intro s0 σ H locs ls h hP hS hl
  unfold f_X1_readGain_17 at h
  obtain ⟨hC, hb, hml, hr, hlk, hD, hSW⟩ := id hF
  have hx := hC.1
  refine lv_iconst (v := 4) hx hb dX1_readGain_17 (by decide) ?_
  refine lv_aload_n hx hb dX1_readGain_18 rfl (lv_at hl 0 rfl) ?_
  refine gf_X1_43 hC hb hP dX1_readGain_19 ?_
  obtain ⟨r1, σ2, g3, h⟩ := of_bnd h
  refine x_VV (As := [.int s0, .int 4, .int (gI σ 260)]) (rest := []) hF hl hP hS (c_X1_demand g3) (cw_X1_62 hC rfl rfl ⟨Nat.le_of_ble_eq_true rfl, Nat.le_of_ble_eq_true rfl⟩) lc_4 rfl rfl rfl (Nat.le_of_ble_eq_true rfl) dX1_readGain_22 ⟨Nat.zero_le _, Nat.zero_le _⟩ (fun H locs hP hS => ?_)
  refine lv_aload_n hx hb dX1_readGain_25 rfl (lv_at hl 0 rfl) ?_
  refine lv_sipush (v := 259) hx hb dX1_readGain_26 (by decide) ?_
  obtain ⟨r4, σ5, g6, h⟩ := of_bnd h
  refine x_VI (As := [.int 259]) (rest := []) hF hl hP hS (c_X1_expect g6) (cw_X1_89 hC rfl rfl ⟨Nat.le_of_ble_eq_true rfl, Nat.le_of_ble_eq_true rfl⟩) lc_4 rfl rfl rfl (Nat.le_of_ble_eq_true rfl) dX1_readGain_29 ⟨Nat.zero_le _, Nat.zero_le _⟩ (fun H locs hP hS => ?_)
  refine lv_pop hx hb dX1_readGain_32 rfl ?_
  refine lv_aload_n hx hb dX1_readGain_33 rfl (lv_at hl 0 rfl) ?_
  refine lv_sipush (v := 273) hx hb dX1_readGain_34 (by decide) ?_
  obtain ⟨r7, σ8, g9, h⟩ := of_bnd h
  refine x_VI (As := [.int 273]) (rest := []) hF hl hP hS (c_X1_expect g9) (cw_X1_89 hC rfl rfl ⟨Nat.le_of_ble_eq_true rfl, Nat.le_of_ble_eq_true rfl⟩) lc_4 rfl rfl rfl (Nat.le_of_ble_eq_true rfl) dX1_readGain_37 ⟨Nat.zero_le _, Nat.zero_le _⟩ (fun H locs hP hS => ?_)
  refine lv_istore_n (lv' := [(1, .int r7), (0, .ref (E 4))]) hx hb dX1_readGain_40 rfl hl (by decide) rfl (fun ls hl => ?_)
  refine lv_aload_n hx hb dX1_readGain_41 rfl (lv_at hl 1 rfl) ?_
  refine lv_iload_n hx hb dX1_readGain_42 rfl (lv_at hl 0 rfl) ?_
  obtain ⟨r10, σ11, g12, h⟩ := of_bnd h
  refine x_VV (As := [.int r7]) (rest := []) hF hl hP hS (c_X1_demandNewName g12) (cw_X1_96 hC rfl rfl ⟨Nat.le_of_ble_eq_true rfl, Nat.le_of_ble_eq_true rfl⟩) lc_4 rfl rfl rfl (Nat.le_of_ble_eq_true rfl) dX1_readGain_43 ⟨Nat.zero_le _, Nat.zero_le _⟩ (fun H locs hP hS => ?_)
  refine lv_iconst (v := -1) hx hb dX1_readGain_46 (by decide) ?_
  refine lv_topi (fun x13 ex13 => ?_)
  have h := of_lt h ex13
  refine lv_istore_n (lv' := [(2, .int x13), (1, .int r7), (0, .ref (E 4))]) hx hb dX1_readGain_47 rfl hl (by decide) rfl (fun ls hl => ?_)
  refine lv_aload_n hx hb dX1_readGain_48 rfl (lv_at hl 2 rfl) ?_
  refine lv_sipush (v := 260) hx hb dX1_readGain_49 (by decide) ?_
  obtain ⟨r14, σ15, g16, h⟩ := of_bnd h
  refine x_VI (As := [.int 260]) (rest := []) hF hl hP hS (c_X1_accept g16) (cw_X1_118 hC rfl rfl ⟨Nat.le_of_ble_eq_true rfl, Nat.le_of_ble_eq_true rfl⟩) lc_4 rfl rfl rfl (Nat.le_of_ble_eq_true rfl) dX1_readGain_52 ⟨Nat.zero_le _, Nat.zero_le _⟩ (fun H locs hP hS => ?_)
  refine lv_if_eq (tgt := 94) hx hb dX1_readGain_55 (by decide) (fun c17 => ?_) (fun c17 => ?_)
  · have h := of_t h c17
    exact t_X1_readGain_94  hF r7 x13 σ15 _ _ _ h hP hS (lv_sub hl [2, 1, 0] rfl)
  · have h := of_f h c17
    refine lv_aload_n hx hb dX1_readGain_58 rfl (lv_at hl 2 rfl) ?_
    refine lv_sipush (v := 273) hx hb dX1_readGain_59 (by decide) ?_
    obtain ⟨r18, σ19, g20, h⟩ := of_bnd h
    refine x_VI (As := [.int 273]) (rest := []) hF hl hP hS (c_X1_expect g20) (cw_X1_89 hC rfl rfl ⟨Nat.le_of_ble_eq_true rfl, Nat.le_of_ble_eq_true rfl⟩) lc_4 rfl rfl rfl (Nat.le_of_ble_eq_true rfl) dX1_readGain_62 ⟨Nat.zero_le _, Nat.zero_le _⟩ (fun H locs hP hS => ?_)
    refine lv_istore_n (lv' := [(3, .int r18), (2, .int x13), (1, .int r7), (0, .ref (E 4))]) hx hb dX1_readGain_65 rfl hl (by decide) rfl (fun ls hl => ?_)
    refine lv_aload_n hx hb dX1_readGain_66 rfl (lv_at hl 3 rfl) ?_
    refine lv_aload_n hx hb dX1_readGain_67 rfl (lv_at hl 3 rfl) ?_
    refine gf_X1_9 hC hb hP dX1_readGain_68 ?_
    refine lv_iload_n hx hb dX1_readGain_71 rfl (lv_at hl 0 rfl) ?_
    obtain ⟨r21, σ22, g23, h⟩ := of_bnd h
    refine x_VL (As := [.int r18]) (rest := [.ref (E 4)]) hF hl hP hS (c_X7_contentOf g23) (cw_X1_107 hC rfl rfl ⟨Nat.le_of_ble_eq_true rfl, Nat.le_of_ble_eq_true rfl⟩) lc_1 rfl rfl rfl (Nat.le_of_ble_eq_true rfl) dX1_readGain_72 ⟨Nat.zero_le _, Nat.zero_le _⟩ (fun H locs hP hS => ?_)
    obtain ⟨r24, σ25, g26, h⟩ := of_bnd h
    refine x_VI (As := [.long r21]) (rest := []) hF hl hP hS (c_X1_commandNamed g26) (cw_X1_122 hC rfl rfl ⟨Nat.le_of_ble_eq_true rfl, Nat.le_of_ble_eq_true rfl⟩) lc_4 rfl rfl rfl (Nat.le_of_ble_eq_true rfl) dX1_readGain_75 ⟨Nat.zero_le _, Nat.zero_le _⟩ (fun H locs hP hS => ?_)
    refine lv_istore_n (lv' := [(2, .int r24), (3, .int r18), (1, .int r7), (0, .ref (E 4))]) hx hb dX1_readGain_78 rfl hl (by decide) rfl (fun ls hl => ?_)
    refine lv_aload_n hx hb dX1_readGain_79 rfl (lv_at hl 3 rfl) ?_
    refine lv_iload_n hx hb dX1_readGain_80 rfl (lv_at hl 0 rfl) ?_
    refine lv_if_lt (tgt := 88) hx hb dX1_readGain_81 (by decide) (fun c27 => ?_) (fun c27 => ?_)
    · have h := of_t h c27
      refine lv_iconst (v := 0) hx hb dX1_readGain_88 (by decide) ?_
      exact t_X1_readGain_89  hF r7 r24 r18 0 σ25 _ _ _ h hP hS (lv_sub hl [3, 2, 0, 1] rfl)
    · have h := of_f h c27
      refine lv_iconst (v := 1) hx hb dX1_readGain_84 (by decide) ?_
      refine lv_goto (tgt := 89) hx hb dX1_readGain_85 (by decide) ?_
      exact t_X1_readGain_89  hF r7 r24 r18 1 σ25 _ _ _ h hP hS (lv_sub hl [3, 2, 0, 1] rfl)

def f_X1_readGain (σ : Sta) : Option (Unit × Sta) :=
  if 3 ≤ gI σ 197 then
    f_X1_readGain_17 0 σ
  else
    f_X1_readGain_17 1 σ
set_option maxHeartbeats 4000000 in
set_option maxRecDepth 100000 in
theorem c_X1_readGain {l : Launch} {D : va_G} {Y : CYs} {E : Nat → Nat} {σ : Sta} {o : Unit × Sta} (h : f_X1_readGain σ = some o) : MV l yX1_readGain (Cond.code yX1_readGain cX1_readGain 4 none :: gW) rm_X1_readGain LC Y D E [.ref (E 4)] σ o := by
  intro sz
  refine Met_of (Qc := fun sz => QV LC Y D E sz o) (by decide) (Nat.le_of_ble_eq_true rfl) (fun p e s m args below meth c hF hP ls hl => ?_) sz
  have hS : va_S (AF E LC.length s.heap.size) s.heap s.heap [] := va_S.rf
  have hl : lv_has ls 4 [(0, .ref (E 4))] := hl
  show WV p l e rm_X1_readGain s m args below meth c LC Y D E o s.heap [] (F0 m 0 ls [])
  unfold f_X1_readGain at h
  obtain ⟨hC, hb, hml, hr, hlk, hD, hSW⟩ := id hF
  have hx := hC.1
  refine lv_aload_n hx hb dX1_readGain_0 rfl (lv_at hl 0 rfl) ?_
  refine lv_aload_n hx hb dX1_readGain_1 rfl (lv_at hl 0 rfl) ?_
  refine gf_X1_19 hC hb hP dX1_readGain_2 ?_
  refine gf_X1_115 hC hb hP dX1_readGain_5 ?_
  refine lv_iconst (v := 3) hx hb dX1_readGain_8 (by decide) ?_
  refine lv_icmp_ge (tgt := 16) hx hb dX1_readGain_9 (by decide) (fun c1 => ?_) (fun c1 => ?_)
  · have h := of_t h c1
    refine lv_iconst (v := 0) hx hb dX1_readGain_16 (by decide) ?_
    exact t_X1_readGain_17  hF 0 σ _ _ _ h hP hS (lv_sub hl [0] rfl)
  · have h := of_f h c1
    refine lv_iconst (v := 1) hx hb dX1_readGain_12 (by decide) ?_
    refine lv_goto (tgt := 17) hx hb dX1_readGain_13 (by decide) ?_
    exact t_X1_readGain_17  hF 1 σ _ _ _ h hP hS (lv_sub hl [0] rfl)

abbrev rm_X1_readGoal : Room := { frames := 104, cells := 0, slots := 0, locals := 4092 }
def f_X1_readGoal_59 (σ : Sta) : Option (Unit × Sta) :=
  some ((), σ)
set_option maxHeartbeats 4000000 in
set_option maxRecDepth 100000 in
theorem t_X1_readGoal_59 {l : Launch} {D : va_G} {Y : CYs} {E : Nat → Nat} {p : Program} {e : Env} {s : State} {m : MethodId} {args : Array Value} {below : List Frame} {meth : Method} {c : Code} (hF : Fr p s m args meth c RX1 cX1_readGoal 2 none D Y E LC) {o : Unit × Sta} : ∀ (σ : Sta) (H : Heap) (locs : List Loc) (ls : Array Slot), f_X1_readGoal_59 σ = some o → va_P D vwCl (wd Y E σ 0 LC) H → va_S (AF E LC.length s.heap.size) s.heap H locs → lv_has ls 2 [] → WV p l e rm_X1_readGoal s m args below meth c LC Y D E o H locs (F0 m 59 ls []) := by
  intro σ H locs ls h hP hS hl
  unfold f_X1_readGoal_59 at h
  obtain ⟨hC, hb, hml, hr, hlk, hD, hSW⟩ := id hF
  have hx := hC.1
  exact x_vret hF hP hS h dX1_readGoal_59

def f_X1_readGoal_16 (s0 : Int32) (σ : Sta) : Option (Unit × Sta) :=
  bnd (f_X1_demand s0 4 (gI σ 260) σ) (fun _ σ2 =>
  bnd (f_X1_expect 261 σ2) (fun r4 σ5 =>
  bnd (f_X1_readExpression σ5) (fun r7 σ8 =>
  bnd (f_X1_expect 59 σ8) (fun r10 σ11 =>
  bnd (f_X1_isMeaningRight σ11) (fun r13 σ14 =>
  if r13 = 0 then
    f_X1_readGoal_59 σ14
  else
    lt (sI σ14 201 r7) (fun σ17 =>
    f_X1_readGoal_59 σ17))))))
set_option maxHeartbeats 4000000 in
set_option maxRecDepth 100000 in
theorem t_X1_readGoal_16 {l : Launch} {D : va_G} {Y : CYs} {E : Nat → Nat} {p : Program} {e : Env} {s : State} {m : MethodId} {args : Array Value} {below : List Frame} {meth : Method} {c : Code} (hF : Fr p s m args meth c RX1 cX1_readGoal 2 none D Y E LC) {o : Unit × Sta} : ∀ (s0 : Int32) (σ : Sta) (H : Heap) (locs : List Loc) (ls : Array Slot), f_X1_readGoal_16 s0 σ = some o → va_P D vwCl (wd Y E σ 0 LC) H → va_S (AF E LC.length s.heap.size) s.heap H locs → lv_has ls 2 [(0, .ref (E 4))] → WV p l e rm_X1_readGoal s m args below meth c LC Y D E o H locs (F0 m 16 ls [.int s0, .ref (E 4)]) := by
  intro s0 σ H locs ls h hP hS hl
  unfold f_X1_readGoal_16 at h
  obtain ⟨hC, hb, hml, hr, hlk, hD, hSW⟩ := id hF
  have hx := hC.1
  refine lv_iconst (v := 4) hx hb dX1_readGoal_16 (by decide) ?_
  refine lv_aload_n hx hb dX1_readGoal_17 rfl (lv_at hl 0 rfl) ?_
  refine gf_X1_43 hC hb hP dX1_readGoal_18 ?_
  obtain ⟨r1, σ2, g3, h⟩ := of_bnd h
  refine x_VV (As := [.int s0, .int 4, .int (gI σ 260)]) (rest := []) hF hl hP hS (c_X1_demand g3) (cw_X1_62 hC rfl rfl ⟨Nat.le_of_ble_eq_true rfl, Nat.le_of_ble_eq_true rfl⟩) lc_4 rfl rfl rfl (Nat.le_of_ble_eq_true rfl) dX1_readGoal_21 ⟨Nat.zero_le _, Nat.zero_le _⟩ (fun H locs hP hS => ?_)
  refine lv_aload_n hx hb dX1_readGoal_24 rfl (lv_at hl 0 rfl) ?_
  refine lv_sipush (v := 261) hx hb dX1_readGoal_25 (by decide) ?_
  obtain ⟨r4, σ5, g6, h⟩ := of_bnd h
  refine x_VI (As := [.int 261]) (rest := []) hF hl hP hS (c_X1_expect g6) (cw_X1_89 hC rfl rfl ⟨Nat.le_of_ble_eq_true rfl, Nat.le_of_ble_eq_true rfl⟩) lc_4 rfl rfl rfl (Nat.le_of_ble_eq_true rfl) dX1_readGoal_28 ⟨Nat.zero_le _, Nat.zero_le _⟩ (fun H locs hP hS => ?_)
  refine lv_pop hx hb dX1_readGoal_31 rfl ?_
  refine lv_aload_n hx hb dX1_readGoal_32 rfl (lv_at hl 0 rfl) ?_
  obtain ⟨r7, σ8, g9, h⟩ := of_bnd h
  refine x_VI (As := []) (rest := []) hF hl hP hS (c_X1_readExpression g9) (cw_X1_66 hC rfl rfl ⟨Nat.le_of_ble_eq_true rfl, Nat.le_of_ble_eq_true rfl⟩) lc_4 rfl rfl rfl (Nat.le_of_ble_eq_true rfl) dX1_readGoal_33 ⟨Nat.zero_le _, Nat.zero_le _⟩ (fun H locs hP hS => ?_)
  refine lv_istore_n (lv' := [(1, .int r7), (0, .ref (E 4))]) hx hb dX1_readGoal_36 rfl hl (by decide) rfl (fun ls hl => ?_)
  refine lv_aload_n hx hb dX1_readGoal_37 rfl (lv_at hl 1 rfl) ?_
  refine lv_bipush (v := 59) hx hb dX1_readGoal_38 (by decide) ?_
  obtain ⟨r10, σ11, g12, h⟩ := of_bnd h
  refine x_VI (As := [.int 59]) (rest := []) hF hl hP hS (c_X1_expect g12) (cw_X1_89 hC rfl rfl ⟨Nat.le_of_ble_eq_true rfl, Nat.le_of_ble_eq_true rfl⟩) lc_4 rfl rfl rfl (Nat.le_of_ble_eq_true rfl) dX1_readGoal_40 ⟨Nat.zero_le _, Nat.zero_le _⟩ (fun H locs hP hS => ?_)
  refine lv_pop hx hb dX1_readGoal_43 rfl ?_
  refine lv_aload_n hx hb dX1_readGoal_44 rfl (lv_at hl 1 rfl) ?_
  obtain ⟨r13, σ14, g15, h⟩ := of_bnd h
  refine x_VI (As := []) (rest := []) hF hl hP hS (c_X1_isMeaningRight g15) (cw_X1_103 hC rfl rfl ⟨Nat.le_of_ble_eq_true rfl, Nat.le_of_ble_eq_true rfl⟩) lc_4 rfl rfl rfl (Nat.le_of_ble_eq_true rfl) dX1_readGoal_45 ⟨Nat.zero_le _, Nat.zero_le _⟩ (fun H locs hP hS => ?_)
  refine lv_if_eq (tgt := 59) hx hb dX1_readGoal_48 (by decide) (fun c16 => ?_) (fun c16 => ?_)
  · have h := of_t h c16
    exact t_X1_readGoal_59  hF σ14 _ _ _ h hP hS (lv_sub hl [] rfl)
  · have h := of_f h c16
    refine lv_aload_n hx hb dX1_readGoal_51 rfl (lv_at hl 1 rfl) ?_
    refine gf_X1_19 hC hb hP dX1_readGoal_52 ?_
    refine lv_iload_n hx hb dX1_readGoal_55 rfl (lv_at hl 0 rfl) ?_
    refine pf_X1_130 hC hb hP hD hS dX1_readGoal_56 (fun H locs σ17 eσ17 hP hS => ?_)
    have h := of_lt h eσ17
    exact t_X1_readGoal_59  hF σ17 _ _ _ h hP hS (lv_sub hl [] rfl)

def f_X1_readGoal (σ : Sta) : Option (Unit × Sta) :=
  if 0 ≤ gI σ 201 then
    f_X1_readGoal_16 0 σ
  else
    f_X1_readGoal_16 1 σ
set_option maxHeartbeats 4000000 in
set_option maxRecDepth 100000 in
theorem c_X1_readGoal {l : Launch} {D : va_G} {Y : CYs} {E : Nat → Nat} {σ : Sta} {o : Unit × Sta} (h : f_X1_readGoal σ = some o) : MV l yX1_readGoal (Cond.code yX1_readGoal cX1_readGoal 2 none :: gW) rm_X1_readGoal LC Y D E [.ref (E 4)] σ o := by
  intro sz
  refine Met_of (Qc := fun sz => QV LC Y D E sz o) (by decide) (Nat.le_of_ble_eq_true rfl) (fun p e s m args below meth c hF hP ls hl => ?_) sz
  have hS : va_S (AF E LC.length s.heap.size) s.heap s.heap [] := va_S.rf
  have hl : lv_has ls 2 [(0, .ref (E 4))] := hl
  show WV p l e rm_X1_readGoal s m args below meth c LC Y D E o s.heap [] (F0 m 0 ls [])
  unfold f_X1_readGoal at h
  obtain ⟨hC, hb, hml, hr, hlk, hD, hSW⟩ := id hF
  have hx := hC.1
  refine lv_aload_n hx hb dX1_readGoal_0 rfl (lv_at hl 0 rfl) ?_
  refine lv_aload_n hx hb dX1_readGoal_1 rfl (lv_at hl 0 rfl) ?_
  refine gf_X1_19 hC hb hP dX1_readGoal_2 ?_
  refine gf_X1_130 hC hb hP dX1_readGoal_5 ?_
  refine lv_if_ge (tgt := 15) hx hb dX1_readGoal_8 (by decide) (fun c1 => ?_) (fun c1 => ?_)
  · have h := of_t h c1
    refine lv_iconst (v := 0) hx hb dX1_readGoal_15 (by decide) ?_
    exact t_X1_readGoal_16  hF 0 σ _ _ _ h hP hS (lv_sub hl [0] rfl)
  · have h := of_f h c1
    refine lv_iconst (v := 1) hx hb dX1_readGoal_11 (by decide) ?_
    refine lv_goto (tgt := 16) hx hb dX1_readGoal_12 (by decide) ?_
    exact t_X1_readGoal_16  hF 1 σ _ _ _ h hP hS (lv_sub hl [0] rfl)

abbrev rm_X1_readBranch : Room := { frames := 104, cells := 0, slots := 0, locals := 4092 }
def f_X1_readBranch_215 (k103 : Int32 → Int32 → Sta → Option (Unit × Sta)) (v5 : Int32) (σ : Sta) : Option (Unit × Sta) :=
  bnd (f_X1_accept 44 σ) (fun r1 σ2 =>
  lt (v5 + 1) (fun x4 =>
  k103 r1 x4 σ2))
set_option maxHeartbeats 4000000 in
set_option maxRecDepth 100000 in
theorem t_X1_readBranch_215 {l : Launch} {D : va_G} {Y : CYs} {E : Nat → Nat} {p : Program} {e : Env} {s : State} {m : MethodId} {args : Array Value} {below : List Frame} {meth : Method} {c : Code} (hF : Fr p s m args meth c RX1 cX1_readBranch 9 none D Y E LC) {o : Unit × Sta} (k103 : Int32 → Int32 → Sta → Option (Unit × Sta)) (hk103 : ∀ (v4 : Int32) (v5 : Int32) (σ : Sta) (H : Heap) (locs : List Loc) (ls : Array Slot), k103 v4 v5 σ = some o → va_P D vwCl (wd Y E σ 0 LC) H → va_S (AF E LC.length s.heap.size) s.heap H locs → lv_has ls 9 [(0, .ref (E 4)), (4, .int v4), (5, .int v5)] → WV p l e rm_X1_readBranch s m args below meth c LC Y D E o H locs (F0 m 103 ls [])) : ∀ (v5 : Int32) (σ : Sta) (H : Heap) (locs : List Loc) (ls : Array Slot), f_X1_readBranch_215 k103 v5 σ = some o → va_P D vwCl (wd Y E σ 0 LC) H → va_S (AF E LC.length s.heap.size) s.heap H locs → lv_has ls 9 [(0, .ref (E 4)), (5, .int v5)] → WV p l e rm_X1_readBranch s m args below meth c LC Y D E o H locs (F0 m 215 ls []) := by
  intro v5 σ H locs ls h hP hS hl
  unfold f_X1_readBranch_215 at h
  obtain ⟨hC, hb, hml, hr, hlk, hD, hSW⟩ := id hF
  have hx := hC.1
  refine lv_aload_n hx hb dX1_readBranch_215 rfl (lv_at hl 0 rfl) ?_
  refine lv_bipush (v := 44) hx hb dX1_readBranch_216 (by decide) ?_
  obtain ⟨r1, σ2, g3, h⟩ := of_bnd h
  refine x_VI (As := [.int 44]) (rest := []) hF hl hP hS (c_X1_accept g3) (cw_X1_118 hC rfl rfl ⟨Nat.le_of_ble_eq_true rfl, Nat.le_of_ble_eq_true rfl⟩) lc_4 rfl rfl rfl (Nat.le_of_ble_eq_true rfl) dX1_readBranch_218 ⟨Nat.zero_le _, Nat.zero_le _⟩ (fun H locs hP hS => ?_)
  refine lv_istore (lv' := [(4, .int r1), (0, .ref (E 4)), (5, .int v5)]) hx hb dX1_readBranch_221 hl (by decide) rfl (fun ls hl => ?_)
  obtain ⟨x4, ex4⟩ : ∃ y : Int32, y = v5 + 1 := ⟨_, rfl⟩
  have h := of_lt h ex4
  refine lv_iinc (v := x4) (lv' := [(5, .int x4), (4, .int r1), (0, .ref (E 4))]) hx hb dX1_readBranch_223 hl (k := 2) rfl (by rw [ex4]; rfl) (by decide) rfl (fun ls hl => ?_)
  refine lv_goto (tgt := 103) hx hb dX1_readBranch_226 (by decide) ?_
  exact hk103 r1 x4 σ2 _ _ _ h hP hS (lv_sub hl [2, 1, 0] rfl)

def f_X1_readBranch_178 (k103 : Int32 → Int32 → Sta → Option (Unit × Sta)) (v5 : Int32) (v6 : Int32) (v7 : Int32) (s0 : Int32) (σ : Sta) : Option (Unit × Sta) :=
  bnd (f_X1_demand s0 3 v6 σ) (fun _ σ2 =>
  bnd (f_X1_expect 61 σ2) (fun r4 σ5 =>
  bnd (f_X1_readExpression σ5) (fun r7 σ8 =>
  bnd (f_X1_isMeaningRight σ8) (fun r10 σ11 =>
  if r10 = 0 then
    f_X1_readBranch_215 k103 v5 σ11
  else
    bnd (f_X4_addSetting v7 r7 σ11) (fun _ σ15 =>
    f_X1_readBranch_215 k103 v5 σ15)))))
set_option maxHeartbeats 4000000 in
set_option maxRecDepth 100000 in
theorem t_X1_readBranch_178 {l : Launch} {D : va_G} {Y : CYs} {E : Nat → Nat} {p : Program} {e : Env} {s : State} {m : MethodId} {args : Array Value} {below : List Frame} {meth : Method} {c : Code} (hF : Fr p s m args meth c RX1 cX1_readBranch 9 none D Y E LC) {o : Unit × Sta} (k103 : Int32 → Int32 → Sta → Option (Unit × Sta)) (hk103 : ∀ (v4 : Int32) (v5 : Int32) (σ : Sta) (H : Heap) (locs : List Loc) (ls : Array Slot), k103 v4 v5 σ = some o → va_P D vwCl (wd Y E σ 0 LC) H → va_S (AF E LC.length s.heap.size) s.heap H locs → lv_has ls 9 [(0, .ref (E 4)), (4, .int v4), (5, .int v5)] → WV p l e rm_X1_readBranch s m args below meth c LC Y D E o H locs (F0 m 103 ls [])) : ∀ (v5 : Int32) (v6 : Int32) (v7 : Int32) (s0 : Int32) (σ : Sta) (H : Heap) (locs : List Loc) (ls : Array Slot), f_X1_readBranch_178 k103 v5 v6 v7 s0 σ = some o → va_P D vwCl (wd Y E σ 0 LC) H → va_S (AF E LC.length s.heap.size) s.heap H locs → lv_has ls 9 [(0, .ref (E 4)), (5, .int v5), (6, .int v6), (7, .int v7)] → WV p l e rm_X1_readBranch s m args below meth c LC Y D E o H locs (F0 m 178 ls [.int s0, .ref (E 4)]) := by
  intro v5 v6 v7 s0 σ H locs ls h hP hS hl
  unfold f_X1_readBranch_178 at h
  obtain ⟨hC, hb, hml, hr, hlk, hD, hSW⟩ := id hF
  have hx := hC.1
  refine lv_iconst (v := 3) hx hb dX1_readBranch_178 (by decide) ?_
  refine lv_iload hx hb dX1_readBranch_179 (lv_at hl 2 rfl) ?_
  obtain ⟨r1, σ2, g3, h⟩ := of_bnd h
  refine x_VV (As := [.int s0, .int 3, .int v6]) (rest := []) hF hl hP hS (c_X1_demand g3) (cw_X1_62 hC rfl rfl ⟨Nat.le_of_ble_eq_true rfl, Nat.le_of_ble_eq_true rfl⟩) lc_4 rfl rfl rfl (Nat.le_of_ble_eq_true rfl) dX1_readBranch_181 ⟨Nat.zero_le _, Nat.zero_le _⟩ (fun H locs hP hS => ?_)
  refine lv_aload_n hx hb dX1_readBranch_184 rfl (lv_at hl 0 rfl) ?_
  refine lv_bipush (v := 61) hx hb dX1_readBranch_185 (by decide) ?_
  obtain ⟨r4, σ5, g6, h⟩ := of_bnd h
  refine x_VI (As := [.int 61]) (rest := []) hF hl hP hS (c_X1_expect g6) (cw_X1_89 hC rfl rfl ⟨Nat.le_of_ble_eq_true rfl, Nat.le_of_ble_eq_true rfl⟩) lc_4 rfl rfl rfl (Nat.le_of_ble_eq_true rfl) dX1_readBranch_187 ⟨Nat.zero_le _, Nat.zero_le _⟩ (fun H locs hP hS => ?_)
  refine lv_pop hx hb dX1_readBranch_190 rfl ?_
  refine lv_aload_n hx hb dX1_readBranch_191 rfl (lv_at hl 0 rfl) ?_
  obtain ⟨r7, σ8, g9, h⟩ := of_bnd h
  refine x_VI (As := []) (rest := []) hF hl hP hS (c_X1_readExpression g9) (cw_X1_66 hC rfl rfl ⟨Nat.le_of_ble_eq_true rfl, Nat.le_of_ble_eq_true rfl⟩) lc_4 rfl rfl rfl (Nat.le_of_ble_eq_true rfl) dX1_readBranch_192 ⟨Nat.zero_le _, Nat.zero_le _⟩ (fun H locs hP hS => ?_)
  refine lv_istore (lv' := [(8, .int r7), (0, .ref (E 4)), (5, .int v5), (6, .int v6), (7, .int v7)]) hx hb dX1_readBranch_195 hl (by decide) rfl (fun ls hl => ?_)
  refine lv_aload_n hx hb dX1_readBranch_197 rfl (lv_at hl 1 rfl) ?_
  obtain ⟨r10, σ11, g12, h⟩ := of_bnd h
  refine x_VI (As := []) (rest := []) hF hl hP hS (c_X1_isMeaningRight g12) (cw_X1_103 hC rfl rfl ⟨Nat.le_of_ble_eq_true rfl, Nat.le_of_ble_eq_true rfl⟩) lc_4 rfl rfl rfl (Nat.le_of_ble_eq_true rfl) dX1_readBranch_198 ⟨Nat.zero_le _, Nat.zero_le _⟩ (fun H locs hP hS => ?_)
  refine lv_if_eq (tgt := 215) hx hb dX1_readBranch_201 (by decide) (fun c13 => ?_) (fun c13 => ?_)
  · have h := of_t h c13
    exact t_X1_readBranch_215  hF k103 hk103 v5 σ11 _ _ _ h hP hS (lv_sub hl [1, 2] rfl)
  · have h := of_f h c13
    refine lv_aload_n hx hb dX1_readBranch_204 rfl (lv_at hl 1 rfl) ?_
    refine gf_X1_19 hC hb hP dX1_readBranch_205 ?_
    refine lv_iload hx hb dX1_readBranch_208 (lv_at hl 4 rfl) ?_
    refine lv_iload hx hb dX1_readBranch_210 (lv_at hl 0 rfl) ?_
    obtain ⟨r14, σ15, g16, h⟩ := of_bnd h
    refine x_VV (As := [.int v7, .int r7]) (rest := []) hF hl hP hS (c_X4_addSetting g16) (cw_X1_164 hC rfl rfl ⟨Nat.le_of_ble_eq_true rfl, Nat.le_of_ble_eq_true rfl⟩) lc_3 rfl rfl rfl (Nat.le_of_ble_eq_true rfl) dX1_readBranch_212 ⟨Nat.zero_le _, Nat.zero_le _⟩ (fun H locs hP hS => ?_)
    exact t_X1_readBranch_215  hF k103 hk103 v5 σ15 _ _ _ h hP hS (lv_sub hl [1, 2] rfl)

def f_X1_readBranch_154 (k103 : Int32 → Int32 → Sta → Option (Unit × Sta)) (v5 : Int32) (v6 : Int32) (v7 : Int32) (s0 : Int32) (σ : Sta) : Option (Unit × Sta) :=
  bnd (f_X1_demand s0 2 v6 σ) (fun _ σ2 =>
  bnd (f_X4_isSetInLatest v7 σ2) (fun r4 σ5 =>
  if r4 = 0 then
    f_X1_readBranch_178 k103 v5 v6 v7 1 σ5
  else
    f_X1_readBranch_178 k103 v5 v6 v7 0 σ5))
set_option maxHeartbeats 4000000 in
set_option maxRecDepth 100000 in
theorem t_X1_readBranch_154 {l : Launch} {D : va_G} {Y : CYs} {E : Nat → Nat} {p : Program} {e : Env} {s : State} {m : MethodId} {args : Array Value} {below : List Frame} {meth : Method} {c : Code} (hF : Fr p s m args meth c RX1 cX1_readBranch 9 none D Y E LC) {o : Unit × Sta} (k103 : Int32 → Int32 → Sta → Option (Unit × Sta)) (hk103 : ∀ (v4 : Int32) (v5 : Int32) (σ : Sta) (H : Heap) (locs : List Loc) (ls : Array Slot), k103 v4 v5 σ = some o → va_P D vwCl (wd Y E σ 0 LC) H → va_S (AF E LC.length s.heap.size) s.heap H locs → lv_has ls 9 [(0, .ref (E 4)), (4, .int v4), (5, .int v5)] → WV p l e rm_X1_readBranch s m args below meth c LC Y D E o H locs (F0 m 103 ls [])) : ∀ (v5 : Int32) (v6 : Int32) (v7 : Int32) (s0 : Int32) (σ : Sta) (H : Heap) (locs : List Loc) (ls : Array Slot), f_X1_readBranch_154 k103 v5 v6 v7 s0 σ = some o → va_P D vwCl (wd Y E σ 0 LC) H → va_S (AF E LC.length s.heap.size) s.heap H locs → lv_has ls 9 [(0, .ref (E 4)), (5, .int v5), (6, .int v6), (7, .int v7)] → WV p l e rm_X1_readBranch s m args below meth c LC Y D E o H locs (F0 m 154 ls [.int s0, .ref (E 4)]) := by
  intro v5 v6 v7 s0 σ H locs ls h hP hS hl
  unfold f_X1_readBranch_154 at h
  obtain ⟨hC, hb, hml, hr, hlk, hD, hSW⟩ := id hF
  have hx := hC.1
  refine lv_iconst (v := 2) hx hb dX1_readBranch_154 (by decide) ?_
  refine lv_iload hx hb dX1_readBranch_155 (lv_at hl 2 rfl) ?_
  obtain ⟨r1, σ2, g3, h⟩ := of_bnd h
  refine x_VV (As := [.int s0, .int 2, .int v6]) (rest := []) hF hl hP hS (c_X1_demand g3) (cw_X1_62 hC rfl rfl ⟨Nat.le_of_ble_eq_true rfl, Nat.le_of_ble_eq_true rfl⟩) lc_4 rfl rfl rfl (Nat.le_of_ble_eq_true rfl) dX1_readBranch_157 ⟨Nat.zero_le _, Nat.zero_le _⟩ (fun H locs hP hS => ?_)
  refine lv_aload_n hx hb dX1_readBranch_160 rfl (lv_at hl 0 rfl) ?_
  refine lv_aload_n hx hb dX1_readBranch_161 rfl (lv_at hl 0 rfl) ?_
  refine gf_X1_19 hC hb hP dX1_readBranch_162 ?_
  refine lv_iload hx hb dX1_readBranch_165 (lv_at hl 3 rfl) ?_
  obtain ⟨r4, σ5, g6, h⟩ := of_bnd h
  refine x_VI (As := [.int v7]) (rest := [.ref (E 4)]) hF hl hP hS (c_X4_isSetInLatest g6) (cw_X1_161 hC rfl rfl ⟨Nat.le_of_ble_eq_true rfl, Nat.le_of_ble_eq_true rfl⟩) lc_3 rfl rfl rfl (Nat.le_of_ble_eq_true rfl) dX1_readBranch_167 ⟨Nat.zero_le _, Nat.zero_le _⟩ (fun H locs hP hS => ?_)
  refine lv_if_ne (tgt := 177) hx hb dX1_readBranch_170 (by decide) (fun c7 => ?_) (fun c7 => ?_)
  · have h := of_f h c7
    refine lv_iconst (v := 0) hx hb dX1_readBranch_177 (by decide) ?_
    exact t_X1_readBranch_178  hF k103 hk103 v5 v6 v7 0 σ5 _ _ _ h hP hS (lv_sub hl [0, 1, 2, 3] rfl)
  · have h := of_t h c7
    refine lv_iconst (v := 1) hx hb dX1_readBranch_173 (by decide) ?_
    refine lv_goto (tgt := 178) hx hb dX1_readBranch_174 (by decide) ?_
    exact t_X1_readBranch_178  hF k103 hk103 v5 v6 v7 1 σ5 _ _ _ h hP hS (lv_sub hl [0, 1, 2, 3] rfl)

def f_X1_readBranch_229 (σ : Sta) : Option (Unit × Sta) :=
  some ((), σ)
set_option maxHeartbeats 4000000 in
set_option maxRecDepth 100000 in
theorem t_X1_readBranch_229 {l : Launch} {D : va_G} {Y : CYs} {E : Nat → Nat} {p : Program} {e : Env} {s : State} {m : MethodId} {args : Array Value} {below : List Frame} {meth : Method} {c : Code} (hF : Fr p s m args meth c RX1 cX1_readBranch 9 none D Y E LC) {o : Unit × Sta} : ∀ (σ : Sta) (H : Heap) (locs : List Loc) (ls : Array Slot), f_X1_readBranch_229 σ = some o → va_P D vwCl (wd Y E σ 0 LC) H → va_S (AF E LC.length s.heap.size) s.heap H locs → lv_has ls 9 [] → WV p l e rm_X1_readBranch s m args below meth c LC Y D E o H locs (F0 m 229 ls []) := by
  intro σ H locs ls h hP hS hl
  unfold f_X1_readBranch_229 at h
  obtain ⟨hC, hb, hml, hr, hlk, hD, hSW⟩ := id hF
  have hx := hC.1
  exact x_vret hF hP hS h dX1_readBranch_229

def f_X1_readBranch_103 : Nat → Int32 → Int32 → Sta → Option (Unit × Sta)
  | 0, _, _, _ => none
  | n + 1, v4, v5, σ => if 1500 ≤ v5 then
      f_X1_readBranch_229 σ
    else
      if v4 = 0 then
        f_X1_readBranch_229 σ
      else
        bnd (f_X1_expect 273 σ) (fun r3 σ4 =>
        bnd (f_X7_contentOf r3 σ4) (fun r6 σ7 =>
        bnd (f_X4_variableNamed r6 σ7) (fun r9 σ10 =>
        if r9 < 0 then
          f_X1_readBranch_154 (f_X1_readBranch_103 n) v5 r3 r9 0 σ10
        else
          f_X1_readBranch_154 (f_X1_readBranch_103 n) v5 r3 r9 1 σ10)))
set_option maxHeartbeats 4000000 in
set_option maxRecDepth 100000 in
theorem t_X1_readBranch_103 {l : Launch} {D : va_G} {Y : CYs} {E : Nat → Nat} {p : Program} {e : Env} {s : State} {m : MethodId} {args : Array Value} {below : List Frame} {meth : Method} {c : Code} (hF : Fr p s m args meth c RX1 cX1_readBranch 9 none D Y E LC) {o : Unit × Sta} : ∀ (n : Nat) (v4 : Int32) (v5 : Int32) (σ : Sta) (H : Heap) (locs : List Loc) (ls : Array Slot), f_X1_readBranch_103 n v4 v5 σ = some o → va_P D vwCl (wd Y E σ 0 LC) H → va_S (AF E LC.length s.heap.size) s.heap H locs → lv_has ls 9 [(0, .ref (E 4)), (4, .int v4), (5, .int v5)] → WV p l e rm_X1_readBranch s m args below meth c LC Y D E o H locs (F0 m 103 ls []) := by
  intro n
  induction n with
  | zero =>
    intro v4 v5 σ H locs ls h hP hS hl
    exact nomatch (show (none : Option (Unit × Sta)) = some o from h)
  | succ n ih =>
    intro v4 v5 σ H locs ls h hP hS hl
    rw [f_X1_readBranch_103] at h
    obtain ⟨hC, hb, hml, hr, hlk, hD, hSW⟩ := id hF
    have hx := hC.1
    refine lv_iload hx hb dX1_readBranch_103 (lv_at hl 2 rfl) ?_
    refine lv_sipush (v := 1500) hx hb dX1_readBranch_105 (by decide) ?_
    refine lv_icmp_ge (tgt := 229) hx hb dX1_readBranch_108 (by decide) (fun c1 => ?_) (fun c1 => ?_)
    · have h := of_t h c1
      exact t_X1_readBranch_229  hF σ _ _ _ h hP hS (lv_sub hl [] rfl)
    · have h := of_f h c1
      refine lv_iload hx hb dX1_readBranch_111 (lv_at hl 1 rfl) ?_
      refine lv_if_eq (tgt := 229) hx hb dX1_readBranch_113 (by decide) (fun c2 => ?_) (fun c2 => ?_)
      · have h := of_t h c2
        exact t_X1_readBranch_229  hF σ _ _ _ h hP hS (lv_sub hl [] rfl)
      · have h := of_f h c2
        refine lv_aload_n hx hb dX1_readBranch_116 rfl (lv_at hl 0 rfl) ?_
        refine lv_sipush (v := 273) hx hb dX1_readBranch_117 (by decide) ?_
        obtain ⟨r3, σ4, g5, h⟩ := of_bnd h
        refine x_VI (As := [.int 273]) (rest := []) hF hl hP hS (c_X1_expect g5) (cw_X1_89 hC rfl rfl ⟨Nat.le_of_ble_eq_true rfl, Nat.le_of_ble_eq_true rfl⟩) lc_4 rfl rfl rfl (Nat.le_of_ble_eq_true rfl) dX1_readBranch_120 ⟨Nat.zero_le _, Nat.zero_le _⟩ (fun H locs hP hS => ?_)
        refine lv_istore (lv' := [(6, .int r3), (0, .ref (E 4)), (4, .int v4), (5, .int v5)]) hx hb dX1_readBranch_123 hl (by decide) rfl (fun ls hl => ?_)
        refine lv_aload_n hx hb dX1_readBranch_125 rfl (lv_at hl 1 rfl) ?_
        refine gf_X1_19 hC hb hP dX1_readBranch_126 ?_
        refine lv_aload_n hx hb dX1_readBranch_129 rfl (lv_at hl 1 rfl) ?_
        refine gf_X1_9 hC hb hP dX1_readBranch_130 ?_
        refine lv_iload hx hb dX1_readBranch_133 (lv_at hl 0 rfl) ?_
        obtain ⟨r6, σ7, g8, h⟩ := of_bnd h
        refine x_VL (As := [.int r3]) (rest := [.ref (E 3)]) hF hl hP hS (c_X7_contentOf g8) (cw_X1_107 hC rfl rfl ⟨Nat.le_of_ble_eq_true rfl, Nat.le_of_ble_eq_true rfl⟩) lc_1 rfl rfl rfl (Nat.le_of_ble_eq_true rfl) dX1_readBranch_135 ⟨Nat.zero_le _, Nat.zero_le _⟩ (fun H locs hP hS => ?_)
        obtain ⟨r9, σ10, g11, h⟩ := of_bnd h
        refine x_VI (As := [.long r6]) (rest := []) hF hl hP hS (c_X4_variableNamed g11) (cw_X1_158 hC rfl rfl ⟨Nat.le_of_ble_eq_true rfl, Nat.le_of_ble_eq_true rfl⟩) lc_3 rfl rfl rfl (Nat.le_of_ble_eq_true rfl) dX1_readBranch_138 ⟨Nat.zero_le _, Nat.zero_le _⟩ (fun H locs hP hS => ?_)
        refine lv_istore (lv' := [(7, .int r9), (6, .int r3), (0, .ref (E 4)), (4, .int v4), (5, .int v5)]) hx hb dX1_readBranch_141 hl (by decide) rfl (fun ls hl => ?_)
        refine lv_aload_n hx hb dX1_readBranch_143 rfl (lv_at hl 2 rfl) ?_
        refine lv_iload hx hb dX1_readBranch_144 (lv_at hl 0 rfl) ?_
        refine lv_if_lt (tgt := 153) hx hb dX1_readBranch_146 (by decide) (fun c12 => ?_) (fun c12 => ?_)
        · have h := of_t h c12
          refine lv_iconst (v := 0) hx hb dX1_readBranch_153 (by decide) ?_
          exact t_X1_readBranch_154  hF (f_X1_readBranch_103 n) ih v5 r3 r9 0 σ10 _ _ _ h hP hS (lv_sub hl [2, 4, 1, 0] rfl)
        · have h := of_f h c12
          refine lv_iconst (v := 1) hx hb dX1_readBranch_149 (by decide) ?_
          refine lv_goto (tgt := 154) hx hb dX1_readBranch_150 (by decide) ?_
          exact t_X1_readBranch_154  hF (f_X1_readBranch_103 n) ih v5 r3 r9 1 σ10 _ _ _ h hP hS (lv_sub hl [2, 4, 1, 0] rfl)

def f_X1_readBranch_91 (σ : Sta) : Option (Unit × Sta) :=
  bnd (f_X1_accept 265 σ) (fun r1 σ2 =>
  f_X1_readBranch_103 FU r1 0 σ2)
set_option maxHeartbeats 4000000 in
set_option maxRecDepth 100000 in
theorem t_X1_readBranch_91 {l : Launch} {D : va_G} {Y : CYs} {E : Nat → Nat} {p : Program} {e : Env} {s : State} {m : MethodId} {args : Array Value} {below : List Frame} {meth : Method} {c : Code} (hF : Fr p s m args meth c RX1 cX1_readBranch 9 none D Y E LC) {o : Unit × Sta} : ∀ (σ : Sta) (H : Heap) (locs : List Loc) (ls : Array Slot), f_X1_readBranch_91 σ = some o → va_P D vwCl (wd Y E σ 0 LC) H → va_S (AF E LC.length s.heap.size) s.heap H locs → lv_has ls 9 [(0, .ref (E 4))] → WV p l e rm_X1_readBranch s m args below meth c LC Y D E o H locs (F0 m 91 ls []) := by
  intro σ H locs ls h hP hS hl
  unfold f_X1_readBranch_91 at h
  obtain ⟨hC, hb, hml, hr, hlk, hD, hSW⟩ := id hF
  have hx := hC.1
  refine lv_aload_n hx hb dX1_readBranch_91 rfl (lv_at hl 0 rfl) ?_
  refine lv_sipush (v := 265) hx hb dX1_readBranch_92 (by decide) ?_
  obtain ⟨r1, σ2, g3, h⟩ := of_bnd h
  refine x_VI (As := [.int 265]) (rest := []) hF hl hP hS (c_X1_accept g3) (cw_X1_118 hC rfl rfl ⟨Nat.le_of_ble_eq_true rfl, Nat.le_of_ble_eq_true rfl⟩) lc_4 rfl rfl rfl (Nat.le_of_ble_eq_true rfl) dX1_readBranch_95 ⟨Nat.zero_le _, Nat.zero_le _⟩ (fun H locs hP hS => ?_)
  refine lv_istore (lv' := [(4, .int r1), (0, .ref (E 4))]) hx hb dX1_readBranch_98 hl (by decide) rfl (fun ls hl => ?_)
  refine lv_iconst (v := 0) hx hb dX1_readBranch_100 (by decide) ?_
  refine lv_istore (lv' := [(5, .int 0), (4, .int r1), (0, .ref (E 4))]) hx hb dX1_readBranch_101 hl (by decide) rfl (fun ls hl => ?_)
  exact t_X1_readBranch_103  hF FU r1 0 σ2 _ _ _ h hP hS (lv_sub hl [2, 1, 0] rfl)

def f_X1_readBranch_70 (v1 : Int32) (v2 : Int64) (s0 : Int32) (σ : Sta) : Option (Unit × Sta) :=
  bnd (f_X1_demand s0 5 v1 σ) (fun _ σ2 =>
  bnd (f_X1_isMeaningRight σ2) (fun r4 σ5 =>
  if r4 = 0 then
    f_X1_readBranch_91 σ5
  else
    bnd (f_X4_addBranch v2.toInt32 σ5) (fun _ σ9 =>
    f_X1_readBranch_91 σ9)))
set_option maxHeartbeats 4000000 in
set_option maxRecDepth 100000 in
theorem t_X1_readBranch_70 {l : Launch} {D : va_G} {Y : CYs} {E : Nat → Nat} {p : Program} {e : Env} {s : State} {m : MethodId} {args : Array Value} {below : List Frame} {meth : Method} {c : Code} (hF : Fr p s m args meth c RX1 cX1_readBranch 9 none D Y E LC) {o : Unit × Sta} : ∀ (v1 : Int32) (v2 : Int64) (s0 : Int32) (σ : Sta) (H : Heap) (locs : List Loc) (ls : Array Slot), f_X1_readBranch_70 v1 v2 s0 σ = some o → va_P D vwCl (wd Y E σ 0 LC) H → va_S (AF E LC.length s.heap.size) s.heap H locs → lv_has ls 9 [(0, .ref (E 4)), (1, .int v1), (2, .long v2)] → WV p l e rm_X1_readBranch s m args below meth c LC Y D E o H locs (F0 m 70 ls [.int s0, .ref (E 4)]) := by
  intro v1 v2 s0 σ H locs ls h hP hS hl
  unfold f_X1_readBranch_70 at h
  obtain ⟨hC, hb, hml, hr, hlk, hD, hSW⟩ := id hF
  have hx := hC.1
  refine lv_iconst (v := 5) hx hb dX1_readBranch_70 (by decide) ?_
  refine lv_iload_n hx hb dX1_readBranch_71 rfl (lv_at hl 1 rfl) ?_
  obtain ⟨r1, σ2, g3, h⟩ := of_bnd h
  refine x_VV (As := [.int s0, .int 5, .int v1]) (rest := []) hF hl hP hS (c_X1_demand g3) (cw_X1_62 hC rfl rfl ⟨Nat.le_of_ble_eq_true rfl, Nat.le_of_ble_eq_true rfl⟩) lc_4 rfl rfl rfl (Nat.le_of_ble_eq_true rfl) dX1_readBranch_72 ⟨Nat.zero_le _, Nat.zero_le _⟩ (fun H locs hP hS => ?_)
  refine lv_aload_n hx hb dX1_readBranch_75 rfl (lv_at hl 0 rfl) ?_
  obtain ⟨r4, σ5, g6, h⟩ := of_bnd h
  refine x_VI (As := []) (rest := []) hF hl hP hS (c_X1_isMeaningRight g6) (cw_X1_103 hC rfl rfl ⟨Nat.le_of_ble_eq_true rfl, Nat.le_of_ble_eq_true rfl⟩) lc_4 rfl rfl rfl (Nat.le_of_ble_eq_true rfl) dX1_readBranch_76 ⟨Nat.zero_le _, Nat.zero_le _⟩ (fun H locs hP hS => ?_)
  refine lv_if_eq (tgt := 91) hx hb dX1_readBranch_79 (by decide) (fun c7 => ?_) (fun c7 => ?_)
  · have h := of_t h c7
    exact t_X1_readBranch_91  hF σ5 _ _ _ h hP hS (lv_sub hl [0] rfl)
  · have h := of_f h c7
    refine lv_aload_n hx hb dX1_readBranch_82 rfl (lv_at hl 0 rfl) ?_
    refine gf_X1_19 hC hb hP dX1_readBranch_83 ?_
    refine lv_lload_n hx hb dX1_readBranch_86 rfl (lv_at hl 2 rfl) ?_
    refine lv_l2i (v := v2.toInt32) hx hb dX1_readBranch_87 rfl ?_
    obtain ⟨r8, σ9, g10, h⟩ := of_bnd h
    refine x_VV (As := [.int v2.toInt32]) (rest := []) hF hl hP hS (c_X4_addBranch g10) (cw_X1_155 hC rfl rfl ⟨Nat.le_of_ble_eq_true rfl, Nat.le_of_ble_eq_true rfl⟩) lc_3 rfl rfl rfl (Nat.le_of_ble_eq_true rfl) dX1_readBranch_88 ⟨Nat.zero_le _, Nat.zero_le _⟩ (fun H locs hP hS => ?_)
    exact t_X1_readBranch_91  hF σ9 _ _ _ h hP hS (lv_sub hl [0] rfl)

def f_X1_readBranch_69 (v1 : Int32) (v2 : Int64) (σ : Sta) : Option (Unit × Sta) :=
  f_X1_readBranch_70 v1 v2 0 σ
set_option maxHeartbeats 4000000 in
set_option maxRecDepth 100000 in
theorem t_X1_readBranch_69 {l : Launch} {D : va_G} {Y : CYs} {E : Nat → Nat} {p : Program} {e : Env} {s : State} {m : MethodId} {args : Array Value} {below : List Frame} {meth : Method} {c : Code} (hF : Fr p s m args meth c RX1 cX1_readBranch 9 none D Y E LC) {o : Unit × Sta} : ∀ (v1 : Int32) (v2 : Int64) (σ : Sta) (H : Heap) (locs : List Loc) (ls : Array Slot), f_X1_readBranch_69 v1 v2 σ = some o → va_P D vwCl (wd Y E σ 0 LC) H → va_S (AF E LC.length s.heap.size) s.heap H locs → lv_has ls 9 [(0, .ref (E 4)), (1, .int v1), (2, .long v2)] → WV p l e rm_X1_readBranch s m args below meth c LC Y D E o H locs (F0 m 69 ls [.ref (E 4)]) := by
  intro v1 v2 σ H locs ls h hP hS hl
  unfold f_X1_readBranch_69 at h
  obtain ⟨hC, hb, hml, hr, hlk, hD, hSW⟩ := id hF
  have hx := hC.1
  refine lv_iconst (v := 0) hx hb dX1_readBranch_69 (by decide) ?_
  exact t_X1_readBranch_70  hF v1 v2 0 σ _ _ _ h hP hS (lv_sub hl [0, 1, 2] rfl)

def f_X1_readBranch_17 (s0 : Int32) (σ : Sta) : Option (Unit × Sta) :=
  bnd (f_X1_demand s0 4 (gI σ 260) σ) (fun _ σ2 =>
  bnd (f_X1_expect 264 σ2) (fun r4 σ5 =>
  bnd (f_X1_expect 274 σ5) (fun r7 σ8 =>
  bnd (f_X7_contentOf r7 σ8) (fun r10 σ11 =>
  if lg_cmp r10 1 < 0 then
    f_X1_readBranch_69 r7 r10 σ11
  else
    if 0 < lg_cmp r10 100 then
      f_X1_readBranch_69 r7 r10 σ11
    else
      f_X1_readBranch_70 r7 r10 1 σ11))))
set_option maxHeartbeats 4000000 in
set_option maxRecDepth 100000 in
theorem t_X1_readBranch_17 {l : Launch} {D : va_G} {Y : CYs} {E : Nat → Nat} {p : Program} {e : Env} {s : State} {m : MethodId} {args : Array Value} {below : List Frame} {meth : Method} {c : Code} (hF : Fr p s m args meth c RX1 cX1_readBranch 9 none D Y E LC) {o : Unit × Sta} : ∀ (s0 : Int32) (σ : Sta) (H : Heap) (locs : List Loc) (ls : Array Slot), f_X1_readBranch_17 s0 σ = some o → va_P D vwCl (wd Y E σ 0 LC) H → va_S (AF E LC.length s.heap.size) s.heap H locs → lv_has ls 9 [(0, .ref (E 4))] → WV p l e rm_X1_readBranch s m args below meth c LC Y D E o H locs (F0 m 17 ls [.int s0, .ref (E 4)]) := by
  intro s0 σ H locs ls h hP hS hl
  unfold f_X1_readBranch_17 at h
  obtain ⟨hC, hb, hml, hr, hlk, hD, hSW⟩ := id hF
  have hx := hC.1
  refine lv_iconst (v := 4) hx hb dX1_readBranch_17 (by decide) ?_
  refine lv_aload_n hx hb dX1_readBranch_18 rfl (lv_at hl 0 rfl) ?_
  refine gf_X1_43 hC hb hP dX1_readBranch_19 ?_
  obtain ⟨r1, σ2, g3, h⟩ := of_bnd h
  refine x_VV (As := [.int s0, .int 4, .int (gI σ 260)]) (rest := []) hF hl hP hS (c_X1_demand g3) (cw_X1_62 hC rfl rfl ⟨Nat.le_of_ble_eq_true rfl, Nat.le_of_ble_eq_true rfl⟩) lc_4 rfl rfl rfl (Nat.le_of_ble_eq_true rfl) dX1_readBranch_22 ⟨Nat.zero_le _, Nat.zero_le _⟩ (fun H locs hP hS => ?_)
  refine lv_aload_n hx hb dX1_readBranch_25 rfl (lv_at hl 0 rfl) ?_
  refine lv_sipush (v := 264) hx hb dX1_readBranch_26 (by decide) ?_
  obtain ⟨r4, σ5, g6, h⟩ := of_bnd h
  refine x_VI (As := [.int 264]) (rest := []) hF hl hP hS (c_X1_expect g6) (cw_X1_89 hC rfl rfl ⟨Nat.le_of_ble_eq_true rfl, Nat.le_of_ble_eq_true rfl⟩) lc_4 rfl rfl rfl (Nat.le_of_ble_eq_true rfl) dX1_readBranch_29 ⟨Nat.zero_le _, Nat.zero_le _⟩ (fun H locs hP hS => ?_)
  refine lv_pop hx hb dX1_readBranch_32 rfl ?_
  refine lv_aload_n hx hb dX1_readBranch_33 rfl (lv_at hl 0 rfl) ?_
  refine lv_sipush (v := 274) hx hb dX1_readBranch_34 (by decide) ?_
  obtain ⟨r7, σ8, g9, h⟩ := of_bnd h
  refine x_VI (As := [.int 274]) (rest := []) hF hl hP hS (c_X1_expect g9) (cw_X1_89 hC rfl rfl ⟨Nat.le_of_ble_eq_true rfl, Nat.le_of_ble_eq_true rfl⟩) lc_4 rfl rfl rfl (Nat.le_of_ble_eq_true rfl) dX1_readBranch_37 ⟨Nat.zero_le _, Nat.zero_le _⟩ (fun H locs hP hS => ?_)
  refine lv_istore_n (lv' := [(1, .int r7), (0, .ref (E 4))]) hx hb dX1_readBranch_40 rfl hl (by decide) rfl (fun ls hl => ?_)
  refine lv_aload_n hx hb dX1_readBranch_41 rfl (lv_at hl 1 rfl) ?_
  refine gf_X1_9 hC hb hP dX1_readBranch_42 ?_
  refine lv_iload_n hx hb dX1_readBranch_45 rfl (lv_at hl 0 rfl) ?_
  obtain ⟨r10, σ11, g12, h⟩ := of_bnd h
  refine x_VL (As := [.int r7]) (rest := []) hF hl hP hS (c_X7_contentOf g12) (cw_X1_107 hC rfl rfl ⟨Nat.le_of_ble_eq_true rfl, Nat.le_of_ble_eq_true rfl⟩) lc_1 rfl rfl rfl (Nat.le_of_ble_eq_true rfl) dX1_readBranch_46 ⟨Nat.zero_le _, Nat.zero_le _⟩ (fun H locs hP hS => ?_)
  refine lv_lstore_n (lv' := [(2, .long r10), (1, .int r7), (0, .ref (E 4))]) hx hb dX1_readBranch_49 rfl hl (by decide) rfl (fun ls hl => ?_)
  refine lv_aload_n hx hb dX1_readBranch_50 rfl (lv_at hl 2 rfl) ?_
  refine lv_lload_n hx hb dX1_readBranch_51 rfl (lv_at hl 0 rfl) ?_
  refine lv_lconst (v := 1) hx hb dX1_readBranch_52 (by decide) ?_
  refine W.lcmp hx hb dX1_readBranch_53 ?_
  refine lv_if_lt (tgt := 69) hx hb dX1_readBranch_54 (by decide) (fun c13 => ?_) (fun c13 => ?_)
  · have h := of_t h c13
    exact t_X1_readBranch_69  hF r7 r10 σ11 _ _ _ h hP hS (lv_sub hl [2, 1, 0] rfl)
  · have h := of_f h c13
    refine lv_lload_n hx hb dX1_readBranch_57 rfl (lv_at hl 0 rfl) ?_
    refine lv_ldc2 (v := 100) hx hb hC.2.2.1 (hC.2.1 (Cond.constantLong RX1 153 100) (gw_t (tb6 (List.mem_of_getElem? (i := 70) rfl)) rfl)) dX1_readBranch_58 ?_
    refine W.lcmp hx hb dX1_readBranch_61 ?_
    refine lv_if_gt (tgt := 69) hx hb dX1_readBranch_62 (by decide) (fun c14 => ?_) (fun c14 => ?_)
    · have h := of_t h c14
      exact t_X1_readBranch_69  hF r7 r10 σ11 _ _ _ h hP hS (lv_sub hl [2, 1, 0] rfl)
    · have h := of_f h c14
      refine lv_iconst (v := 1) hx hb dX1_readBranch_65 (by decide) ?_
      refine lv_goto (tgt := 70) hx hb dX1_readBranch_66 (by decide) ?_
      exact t_X1_readBranch_70  hF r7 r10 1 σ11 _ _ _ h hP hS (lv_sub hl [2, 1, 0] rfl)

def f_X1_readBranch (σ : Sta) : Option (Unit × Sta) :=
  bnd (f_X4_latestBranches σ) (fun r1 σ2 =>
  if 4 ≤ r1 then
    f_X1_readBranch_17 0 σ2
  else
    f_X1_readBranch_17 1 σ2)
set_option maxHeartbeats 4000000 in
set_option maxRecDepth 100000 in
theorem c_X1_readBranch {l : Launch} {D : va_G} {Y : CYs} {E : Nat → Nat} {σ : Sta} {o : Unit × Sta} (h : f_X1_readBranch σ = some o) : MV l yX1_readBranch (Cond.code yX1_readBranch cX1_readBranch 9 none :: gW) rm_X1_readBranch LC Y D E [.ref (E 4)] σ o := by
  intro sz
  refine Met_of (Qc := fun sz => QV LC Y D E sz o) (by decide) (Nat.le_of_ble_eq_true rfl) (fun p e s m args below meth c hF hP ls hl => ?_) sz
  have hS : va_S (AF E LC.length s.heap.size) s.heap s.heap [] := va_S.rf
  have hl : lv_has ls 9 [(0, .ref (E 4))] := hl
  show WV p l e rm_X1_readBranch s m args below meth c LC Y D E o s.heap [] (F0 m 0 ls [])
  unfold f_X1_readBranch at h
  obtain ⟨hC, hb, hml, hr, hlk, hD, hSW⟩ := id hF
  have hx := hC.1
  refine lv_aload_n hx hb dX1_readBranch_0 rfl (lv_at hl 0 rfl) ?_
  refine lv_aload_n hx hb dX1_readBranch_1 rfl (lv_at hl 0 rfl) ?_
  refine gf_X1_19 hC hb hP dX1_readBranch_2 ?_
  obtain ⟨r1, σ2, g3, h⟩ := of_bnd h
  refine x_VI (As := []) (rest := [.ref (E 4)]) hF hl hP hS (c_X4_latestBranches g3) (cw_X1_150 hC rfl rfl ⟨Nat.le_of_ble_eq_true rfl, Nat.le_of_ble_eq_true rfl⟩) lc_3 rfl rfl rfl (Nat.le_of_ble_eq_true rfl) dX1_readBranch_5 ⟨Nat.zero_le _, Nat.zero_le _⟩ (fun H locs hP hS => ?_)
  refine lv_iconst (v := 4) hx hb dX1_readBranch_8 (by decide) ?_
  refine lv_icmp_ge (tgt := 16) hx hb dX1_readBranch_9 (by decide) (fun c4 => ?_) (fun c4 => ?_)
  · have h := of_t h c4
    refine lv_iconst (v := 0) hx hb dX1_readBranch_16 (by decide) ?_
    exact t_X1_readBranch_17  hF 0 σ2 _ _ _ h hP hS (lv_sub hl [0] rfl)
  · have h := of_f h c4
    refine lv_iconst (v := 1) hx hb dX1_readBranch_12 (by decide) ?_
    refine lv_goto (tgt := 17) hx hb dX1_readBranch_13 (by decide) ?_
    exact t_X1_readBranch_17  hF 1 σ2 _ _ _ h hP hS (lv_sub hl [0] rfl)

abbrev rm_X1_readCommand : Room := { frames := 105, cells := 0, slots := 0, locals := 4120 }
def f_X1_readCommand_145 (v1 : Int32) (s0 : Int32) (σ : Sta) : Option (Unit × Sta) :=
  bnd (f_X1_demand s0 6 v1 σ) (fun _ σ2 =>
  some ((), σ2))
set_option maxHeartbeats 4000000 in
set_option maxRecDepth 100000 in
theorem t_X1_readCommand_145 {l : Launch} {D : va_G} {Y : CYs} {E : Nat → Nat} {p : Program} {e : Env} {s : State} {m : MethodId} {args : Array Value} {below : List Frame} {meth : Method} {c : Code} (hF : Fr p s m args meth c RX1 cX1_readCommand 4 none D Y E LC) {o : Unit × Sta} : ∀ (v1 : Int32) (s0 : Int32) (σ : Sta) (H : Heap) (locs : List Loc) (ls : Array Slot), f_X1_readCommand_145 v1 s0 σ = some o → va_P D vwCl (wd Y E σ 0 LC) H → va_S (AF E LC.length s.heap.size) s.heap H locs → lv_has ls 4 [(1, .int v1)] → WV p l e rm_X1_readCommand s m args below meth c LC Y D E o H locs (F0 m 145 ls [.int s0, .ref (E 4)]) := by
  intro v1 s0 σ H locs ls h hP hS hl
  unfold f_X1_readCommand_145 at h
  obtain ⟨hC, hb, hml, hr, hlk, hD, hSW⟩ := id hF
  have hx := hC.1
  refine lv_bipush (v := 6) hx hb dX1_readCommand_145 (by decide) ?_
  refine lv_iload_n hx hb dX1_readCommand_147 rfl (lv_at hl 0 rfl) ?_
  obtain ⟨r1, σ2, g3, h⟩ := of_bnd h
  refine x_VV (As := [.int s0, .int 6, .int v1]) (rest := []) hF hl hP hS (c_X1_demand g3) (cw_X1_62 hC rfl rfl ⟨Nat.le_of_ble_eq_true rfl, Nat.le_of_ble_eq_true rfl⟩) lc_4 rfl rfl rfl (Nat.le_of_ble_eq_true rfl) dX1_readCommand_148 ⟨Nat.zero_le _, Nat.zero_le _⟩ (fun H locs hP hS => ?_)
  exact x_vret hF hP hS h dX1_readCommand_151

def f_X1_readCommand_120 (v1 : Int32) (σ : Sta) : Option (Unit × Sta) :=
  bnd (f_X1_expect 59 σ) (fun r1 σ2 =>
  bnd (f_X4_latestChances σ2) (fun r4 σ5 =>
  if r4 = 100 then
    f_X1_readCommand_145 v1 1 σ5
  else
    f_X1_readCommand_145 v1 0 σ5))
set_option maxHeartbeats 4000000 in
set_option maxRecDepth 100000 in
theorem t_X1_readCommand_120 {l : Launch} {D : va_G} {Y : CYs} {E : Nat → Nat} {p : Program} {e : Env} {s : State} {m : MethodId} {args : Array Value} {below : List Frame} {meth : Method} {c : Code} (hF : Fr p s m args meth c RX1 cX1_readCommand 4 none D Y E LC) {o : Unit × Sta} : ∀ (v1 : Int32) (σ : Sta) (H : Heap) (locs : List Loc) (ls : Array Slot), f_X1_readCommand_120 v1 σ = some o → va_P D vwCl (wd Y E σ 0 LC) H → va_S (AF E LC.length s.heap.size) s.heap H locs → lv_has ls 4 [(0, .ref (E 4)), (1, .int v1)] → WV p l e rm_X1_readCommand s m args below meth c LC Y D E o H locs (F0 m 120 ls []) := by
  intro v1 σ H locs ls h hP hS hl
  unfold f_X1_readCommand_120 at h
  obtain ⟨hC, hb, hml, hr, hlk, hD, hSW⟩ := id hF
  have hx := hC.1
  refine lv_aload_n hx hb dX1_readCommand_120 rfl (lv_at hl 0 rfl) ?_
  refine lv_bipush (v := 59) hx hb dX1_readCommand_121 (by decide) ?_
  obtain ⟨r1, σ2, g3, h⟩ := of_bnd h
  refine x_VI (As := [.int 59]) (rest := []) hF hl hP hS (c_X1_expect g3) (cw_X1_89 hC rfl rfl ⟨Nat.le_of_ble_eq_true rfl, Nat.le_of_ble_eq_true rfl⟩) lc_4 rfl rfl rfl (Nat.le_of_ble_eq_true rfl) dX1_readCommand_123 ⟨Nat.zero_le _, Nat.zero_le _⟩ (fun H locs hP hS => ?_)
  refine lv_pop hx hb dX1_readCommand_126 rfl ?_
  refine lv_aload_n hx hb dX1_readCommand_127 rfl (lv_at hl 0 rfl) ?_
  refine lv_aload_n hx hb dX1_readCommand_128 rfl (lv_at hl 0 rfl) ?_
  refine gf_X1_19 hC hb hP dX1_readCommand_129 ?_
  obtain ⟨r4, σ5, g6, h⟩ := of_bnd h
  refine x_VI (As := []) (rest := [.ref (E 4)]) hF hl hP hS (c_X4_latestChances g6) (cw_X1_147 hC rfl rfl ⟨Nat.le_of_ble_eq_true rfl, Nat.le_of_ble_eq_true rfl⟩) lc_3 rfl rfl rfl (Nat.le_of_ble_eq_true rfl) dX1_readCommand_132 ⟨Nat.zero_le _, Nat.zero_le _⟩ (fun H locs hP hS => ?_)
  refine lv_bipush (v := 100) hx hb dX1_readCommand_135 (by decide) ?_
  refine lv_icmp_ne (tgt := 144) hx hb dX1_readCommand_137 (by decide) (fun c7 => ?_) (fun c7 => ?_)
  · have h := of_f h c7
    refine lv_iconst (v := 0) hx hb dX1_readCommand_144 (by decide) ?_
    exact t_X1_readCommand_145  hF v1 0 σ5 _ _ _ h hP hS (lv_sub hl [1] rfl)
  · have h := of_t h c7
    refine lv_iconst (v := 1) hx hb dX1_readCommand_140 (by decide) ?_
    refine lv_goto (tgt := 145) hx hb dX1_readCommand_141 (by decide) ?_
    exact t_X1_readCommand_145  hF v1 1 σ5 _ _ _ h hP hS (lv_sub hl [1] rfl)

def f_X1_readCommand_96 : Nat → Int32 → Int32 → Sta → Option (Unit × Sta)
  | 0, _, _, _ => none
  | n + 1, v1, v3, σ => bnd (f_X1_readBranch σ) (fun _ σ2 =>
    lt (v3 + 1) (fun x4 =>
    if 1500 ≤ x4 then
      f_X1_readCommand_120 v1 σ2
    else
      bnd (f_X1_accept 266 σ2) (fun r6 σ7 =>
      if r6 = 0 then
        f_X1_readCommand_120 v1 σ7
      else
        f_X1_readCommand_96 n v1 x4 σ7)))
set_option maxHeartbeats 4000000 in
set_option maxRecDepth 100000 in
theorem t_X1_readCommand_96 {l : Launch} {D : va_G} {Y : CYs} {E : Nat → Nat} {p : Program} {e : Env} {s : State} {m : MethodId} {args : Array Value} {below : List Frame} {meth : Method} {c : Code} (hF : Fr p s m args meth c RX1 cX1_readCommand 4 none D Y E LC) {o : Unit × Sta} : ∀ (n : Nat) (v1 : Int32) (v3 : Int32) (σ : Sta) (H : Heap) (locs : List Loc) (ls : Array Slot), f_X1_readCommand_96 n v1 v3 σ = some o → va_P D vwCl (wd Y E σ 0 LC) H → va_S (AF E LC.length s.heap.size) s.heap H locs → lv_has ls 4 [(0, .ref (E 4)), (1, .int v1), (3, .int v3)] → WV p l e rm_X1_readCommand s m args below meth c LC Y D E o H locs (F0 m 96 ls []) := by
  intro n
  induction n with
  | zero =>
    intro v1 v3 σ H locs ls h hP hS hl
    exact nomatch (show (none : Option (Unit × Sta)) = some o from h)
  | succ n ih =>
    intro v1 v3 σ H locs ls h hP hS hl
    rw [f_X1_readCommand_96] at h
    obtain ⟨hC, hb, hml, hr, hlk, hD, hSW⟩ := id hF
    have hx := hC.1
    refine lv_aload_n hx hb dX1_readCommand_96 rfl (lv_at hl 0 rfl) ?_
    obtain ⟨r1, σ2, g3, h⟩ := of_bnd h
    refine x_VV (As := []) (rest := []) hF hl hP hS (c_X1_readBranch g3) (cw_X1_144 hC rfl rfl ⟨Nat.le_of_ble_eq_true rfl, Nat.le_of_ble_eq_true rfl⟩) lc_4 rfl rfl rfl (Nat.le_of_ble_eq_true rfl) dX1_readCommand_97 ⟨Nat.zero_le _, Nat.zero_le _⟩ (fun H locs hP hS => ?_)
    obtain ⟨x4, ex4⟩ : ∃ y : Int32, y = v3 + 1 := ⟨_, rfl⟩
    have h := of_lt h ex4
    refine lv_iinc (v := x4) (lv' := [(3, .int x4), (0, .ref (E 4)), (1, .int v1)]) hx hb dX1_readCommand_100 hl (k := 2) rfl (by rw [ex4]; rfl) (by decide) rfl (fun ls hl => ?_)
    refine lv_iload_n hx hb dX1_readCommand_103 rfl (lv_at hl 0 rfl) ?_
    refine lv_sipush (v := 1500) hx hb dX1_readCommand_104 (by decide) ?_
    refine lv_icmp_ge (tgt := 120) hx hb dX1_readCommand_107 (by decide) (fun c5 => ?_) (fun c5 => ?_)
    · have h := of_t h c5
      exact t_X1_readCommand_120  hF v1 σ2 _ _ _ h hP hS (lv_sub hl [1, 2] rfl)
    · have h := of_f h c5
      refine lv_aload_n hx hb dX1_readCommand_110 rfl (lv_at hl 1 rfl) ?_
      refine lv_sipush (v := 266) hx hb dX1_readCommand_111 (by decide) ?_
      obtain ⟨r6, σ7, g8, h⟩ := of_bnd h
      refine x_VI (As := [.int 266]) (rest := []) hF hl hP hS (c_X1_accept g8) (cw_X1_118 hC rfl rfl ⟨Nat.le_of_ble_eq_true rfl, Nat.le_of_ble_eq_true rfl⟩) lc_4 rfl rfl rfl (Nat.le_of_ble_eq_true rfl) dX1_readCommand_114 ⟨Nat.zero_le _, Nat.zero_le _⟩ (fun H locs hP hS => ?_)
      refine lv_if_ne (tgt := 96) hx hb dX1_readCommand_117 (by decide) (fun c9 => ?_) (fun c9 => ?_)
      · have h := of_f h c9
        exact ih v1 x4 σ7 _ _ _ h hP hS (lv_sub hl [1, 2, 0] rfl)
      · have h := of_t h c9
        exact t_X1_readCommand_120  hF v1 σ7 _ _ _ h hP hS (lv_sub hl [1, 2] rfl)

def f_X1_readCommand_94 (v1 : Int32) (σ : Sta) : Option (Unit × Sta) :=
  f_X1_readCommand_96 FU v1 0 σ
set_option maxHeartbeats 4000000 in
set_option maxRecDepth 100000 in
theorem t_X1_readCommand_94 {l : Launch} {D : va_G} {Y : CYs} {E : Nat → Nat} {p : Program} {e : Env} {s : State} {m : MethodId} {args : Array Value} {below : List Frame} {meth : Method} {c : Code} (hF : Fr p s m args meth c RX1 cX1_readCommand 4 none D Y E LC) {o : Unit × Sta} : ∀ (v1 : Int32) (σ : Sta) (H : Heap) (locs : List Loc) (ls : Array Slot), f_X1_readCommand_94 v1 σ = some o → va_P D vwCl (wd Y E σ 0 LC) H → va_S (AF E LC.length s.heap.size) s.heap H locs → lv_has ls 4 [(0, .ref (E 4)), (1, .int v1)] → WV p l e rm_X1_readCommand s m args below meth c LC Y D E o H locs (F0 m 94 ls []) := by
  intro v1 σ H locs ls h hP hS hl
  unfold f_X1_readCommand_94 at h
  obtain ⟨hC, hb, hml, hr, hlk, hD, hSW⟩ := id hF
  have hx := hC.1
  refine lv_iconst (v := 0) hx hb dX1_readCommand_94 (by decide) ?_
  refine lv_istore_n (lv' := [(3, .int 0), (0, .ref (E 4)), (1, .int v1)]) hx hb dX1_readCommand_95 rfl hl (by decide) rfl (fun ls hl => ?_)
  exact t_X1_readCommand_96  hF FU v1 0 σ _ _ _ h hP hS (lv_sub hl [1, 2, 0] rfl)

def f_X1_readCommand_18 (s0 : Int32) (σ : Sta) : Option (Unit × Sta) :=
  bnd (f_X1_demand s0 4 (gI σ 260) σ) (fun _ σ2 =>
  bnd (f_X1_expect 262 σ2) (fun r4 σ5 =>
  bnd (f_X1_expect 273 σ5) (fun r7 σ8 =>
  bnd (f_X1_demandNewName r7 σ8) (fun _ σ11 =>
  bnd (f_X1_expect 263 σ11) (fun r13 σ14 =>
  bnd (f_X1_readExpression σ14) (fun r16 σ17 =>
  bnd (f_X1_isMeaningRight σ17) (fun r19 σ20 =>
  if r19 = 0 then
    f_X1_readCommand_94 r7 σ20
  else
    bnd (f_X7_contentOf r7 σ20) (fun r23 σ24 =>
    bnd (f_X8_entry 12 1501 r7 σ24) (fun r26 σ27 =>
    bnd (f_X4_addCommand r23 r26 r16 σ27) (fun _ σ30 =>
    f_X1_readCommand_94 r7 σ30))))))))))
set_option maxHeartbeats 4000000 in
set_option maxRecDepth 100000 in
theorem t_X1_readCommand_18 {l : Launch} {D : va_G} {Y : CYs} {E : Nat → Nat} {p : Program} {e : Env} {s : State} {m : MethodId} {args : Array Value} {below : List Frame} {meth : Method} {c : Code} (hF : Fr p s m args meth c RX1 cX1_readCommand 4 none D Y E LC) {o : Unit × Sta} : ∀ (s0 : Int32) (σ : Sta) (H : Heap) (locs : List Loc) (ls : Array Slot), f_X1_readCommand_18 s0 σ = some o → va_P D vwCl (wd Y E σ 0 LC) H → va_S (AF E LC.length s.heap.size) s.heap H locs → lv_has ls 4 [(0, .ref (E 4))] → WV p l e rm_X1_readCommand s m args below meth c LC Y D E o H locs (F0 m 18 ls [.int s0, .ref (E 4)]) := by
  intro s0 σ H locs ls h hP hS hl
  unfold f_X1_readCommand_18 at h
  obtain ⟨hC, hb, hml, hr, hlk, hD, hSW⟩ := id hF
  have hx := hC.1
  refine lv_iconst (v := 4) hx hb dX1_readCommand_18 (by decide) ?_
  refine lv_aload_n hx hb dX1_readCommand_19 rfl (lv_at hl 0 rfl) ?_
  refine gf_X1_43 hC hb hP dX1_readCommand_20 ?_
  obtain ⟨r1, σ2, g3, h⟩ := of_bnd h
  refine x_VV (As := [.int s0, .int 4, .int (gI σ 260)]) (rest := []) hF hl hP hS (c_X1_demand g3) (cw_X1_62 hC rfl rfl ⟨Nat.le_of_ble_eq_true rfl, Nat.le_of_ble_eq_true rfl⟩) lc_4 rfl rfl rfl (Nat.le_of_ble_eq_true rfl) dX1_readCommand_23 ⟨Nat.zero_le _, Nat.zero_le _⟩ (fun H locs hP hS => ?_)
  refine lv_aload_n hx hb dX1_readCommand_26 rfl (lv_at hl 0 rfl) ?_
  refine lv_sipush (v := 262) hx hb dX1_readCommand_27 (by decide) ?_
  obtain ⟨r4, σ5, g6, h⟩ := of_bnd h
  refine x_VI (As := [.int 262]) (rest := []) hF hl hP hS (c_X1_expect g6) (cw_X1_89 hC rfl rfl ⟨Nat.le_of_ble_eq_true rfl, Nat.le_of_ble_eq_true rfl⟩) lc_4 rfl rfl rfl (Nat.le_of_ble_eq_true rfl) dX1_readCommand_30 ⟨Nat.zero_le _, Nat.zero_le _⟩ (fun H locs hP hS => ?_)
  refine lv_pop hx hb dX1_readCommand_33 rfl ?_
  refine lv_aload_n hx hb dX1_readCommand_34 rfl (lv_at hl 0 rfl) ?_
  refine lv_sipush (v := 273) hx hb dX1_readCommand_35 (by decide) ?_
  obtain ⟨r7, σ8, g9, h⟩ := of_bnd h
  refine x_VI (As := [.int 273]) (rest := []) hF hl hP hS (c_X1_expect g9) (cw_X1_89 hC rfl rfl ⟨Nat.le_of_ble_eq_true rfl, Nat.le_of_ble_eq_true rfl⟩) lc_4 rfl rfl rfl (Nat.le_of_ble_eq_true rfl) dX1_readCommand_38 ⟨Nat.zero_le _, Nat.zero_le _⟩ (fun H locs hP hS => ?_)
  refine lv_istore_n (lv' := [(1, .int r7), (0, .ref (E 4))]) hx hb dX1_readCommand_41 rfl hl (by decide) rfl (fun ls hl => ?_)
  refine lv_aload_n hx hb dX1_readCommand_42 rfl (lv_at hl 1 rfl) ?_
  refine lv_iload_n hx hb dX1_readCommand_43 rfl (lv_at hl 0 rfl) ?_
  obtain ⟨r10, σ11, g12, h⟩ := of_bnd h
  refine x_VV (As := [.int r7]) (rest := []) hF hl hP hS (c_X1_demandNewName g12) (cw_X1_96 hC rfl rfl ⟨Nat.le_of_ble_eq_true rfl, Nat.le_of_ble_eq_true rfl⟩) lc_4 rfl rfl rfl (Nat.le_of_ble_eq_true rfl) dX1_readCommand_44 ⟨Nat.zero_le _, Nat.zero_le _⟩ (fun H locs hP hS => ?_)
  refine lv_aload_n hx hb dX1_readCommand_47 rfl (lv_at hl 1 rfl) ?_
  refine lv_sipush (v := 263) hx hb dX1_readCommand_48 (by decide) ?_
  obtain ⟨r13, σ14, g15, h⟩ := of_bnd h
  refine x_VI (As := [.int 263]) (rest := []) hF hl hP hS (c_X1_expect g15) (cw_X1_89 hC rfl rfl ⟨Nat.le_of_ble_eq_true rfl, Nat.le_of_ble_eq_true rfl⟩) lc_4 rfl rfl rfl (Nat.le_of_ble_eq_true rfl) dX1_readCommand_51 ⟨Nat.zero_le _, Nat.zero_le _⟩ (fun H locs hP hS => ?_)
  refine lv_pop hx hb dX1_readCommand_54 rfl ?_
  refine lv_aload_n hx hb dX1_readCommand_55 rfl (lv_at hl 1 rfl) ?_
  obtain ⟨r16, σ17, g18, h⟩ := of_bnd h
  refine x_VI (As := []) (rest := []) hF hl hP hS (c_X1_readExpression g18) (cw_X1_66 hC rfl rfl ⟨Nat.le_of_ble_eq_true rfl, Nat.le_of_ble_eq_true rfl⟩) lc_4 rfl rfl rfl (Nat.le_of_ble_eq_true rfl) dX1_readCommand_56 ⟨Nat.zero_le _, Nat.zero_le _⟩ (fun H locs hP hS => ?_)
  refine lv_istore_n (lv' := [(2, .int r16), (1, .int r7), (0, .ref (E 4))]) hx hb dX1_readCommand_59 rfl hl (by decide) rfl (fun ls hl => ?_)
  refine lv_aload_n hx hb dX1_readCommand_60 rfl (lv_at hl 2 rfl) ?_
  obtain ⟨r19, σ20, g21, h⟩ := of_bnd h
  refine x_VI (As := []) (rest := []) hF hl hP hS (c_X1_isMeaningRight g21) (cw_X1_103 hC rfl rfl ⟨Nat.le_of_ble_eq_true rfl, Nat.le_of_ble_eq_true rfl⟩) lc_4 rfl rfl rfl (Nat.le_of_ble_eq_true rfl) dX1_readCommand_61 ⟨Nat.zero_le _, Nat.zero_le _⟩ (fun H locs hP hS => ?_)
  refine lv_if_eq (tgt := 94) hx hb dX1_readCommand_64 (by decide) (fun c22 => ?_) (fun c22 => ?_)
  · have h := of_t h c22
    exact t_X1_readCommand_94  hF r7 σ20 _ _ _ h hP hS (lv_sub hl [2, 1] rfl)
  · have h := of_f h c22
    refine lv_aload_n hx hb dX1_readCommand_67 rfl (lv_at hl 2 rfl) ?_
    refine gf_X1_19 hC hb hP dX1_readCommand_68 ?_
    refine lv_aload_n hx hb dX1_readCommand_71 rfl (lv_at hl 2 rfl) ?_
    refine gf_X1_9 hC hb hP dX1_readCommand_72 ?_
    refine lv_iload_n hx hb dX1_readCommand_75 rfl (lv_at hl 1 rfl) ?_
    obtain ⟨r23, σ24, g25, h⟩ := of_bnd h
    refine x_VL (As := [.int r7]) (rest := [.ref (E 3)]) hF hl hP hS (c_X7_contentOf g25) (cw_X1_107 hC rfl rfl ⟨Nat.le_of_ble_eq_true rfl, Nat.le_of_ble_eq_true rfl⟩) lc_1 rfl rfl rfl (Nat.le_of_ble_eq_true rfl) dX1_readCommand_76 ⟨Nat.zero_le _, Nat.zero_le _⟩ (fun H locs hP hS => ?_)
    refine lv_aload_n hx hb dX1_readCommand_79 rfl (lv_at hl 2 rfl) ?_
    refine gf_X1_9 hC hb hP dX1_readCommand_80 ?_
    refine gf_X1_133 hC hb hP dX1_readCommand_83 ?_
    refine lv_iload_n hx hb dX1_readCommand_86 rfl (lv_at hl 1 rfl) ?_
    obtain ⟨r26, σ27, g28, h⟩ := of_bnd h
    refine x_SNI (As := [.ref (E 12), .int r7]) (rest := [.long r23, .ref (E 3)]) hF hl hP hS (c_X8_entry lc_12 g28) (cw_X1_137 hC rfl rfl ⟨Nat.le_of_ble_eq_true rfl, Nat.le_of_ble_eq_true rfl⟩) rfl rfl (Nat.le_of_ble_eq_true rfl) dX1_readCommand_87 ⟨Nat.zero_le _, Nat.zero_le _⟩ (fun H locs hP hS => ?_)
    refine lv_iload_n hx hb dX1_readCommand_90 rfl (lv_at hl 0 rfl) ?_
    obtain ⟨r29, σ30, g31, h⟩ := of_bnd h
    refine x_VV (As := [.long r23, .int r26, .int r16]) (rest := []) hF hl hP hS (c_X4_addCommand g31) (cw_X1_141 hC rfl rfl ⟨Nat.le_of_ble_eq_true rfl, Nat.le_of_ble_eq_true rfl⟩) lc_3 rfl rfl rfl (Nat.le_of_ble_eq_true rfl) dX1_readCommand_91 ⟨Nat.zero_le _, Nat.zero_le _⟩ (fun H locs hP hS => ?_)
    exact t_X1_readCommand_94  hF r7 σ30 _ _ _ h hP hS (lv_sub hl [2, 1] rfl)

def f_X1_readCommand (σ : Sta) : Option (Unit × Sta) :=
  if 16 ≤ gI σ 202 then
    f_X1_readCommand_18 0 σ
  else
    f_X1_readCommand_18 1 σ
set_option maxHeartbeats 4000000 in
set_option maxRecDepth 100000 in
theorem c_X1_readCommand {l : Launch} {D : va_G} {Y : CYs} {E : Nat → Nat} {σ : Sta} {o : Unit × Sta} (h : f_X1_readCommand σ = some o) : MV l yX1_readCommand (Cond.code yX1_readCommand cX1_readCommand 4 none :: gW) rm_X1_readCommand LC Y D E [.ref (E 4)] σ o := by
  intro sz
  refine Met_of (Qc := fun sz => QV LC Y D E sz o) (by decide) (Nat.le_of_ble_eq_true rfl) (fun p e s m args below meth c hF hP ls hl => ?_) sz
  have hS : va_S (AF E LC.length s.heap.size) s.heap s.heap [] := va_S.rf
  have hl : lv_has ls 4 [(0, .ref (E 4))] := hl
  show WV p l e rm_X1_readCommand s m args below meth c LC Y D E o s.heap [] (F0 m 0 ls [])
  unfold f_X1_readCommand at h
  obtain ⟨hC, hb, hml, hr, hlk, hD, hSW⟩ := id hF
  have hx := hC.1
  refine lv_aload_n hx hb dX1_readCommand_0 rfl (lv_at hl 0 rfl) ?_
  refine lv_aload_n hx hb dX1_readCommand_1 rfl (lv_at hl 0 rfl) ?_
  refine gf_X1_19 hC hb hP dX1_readCommand_2 ?_
  refine gf_X1_59 hC hb hP dX1_readCommand_5 ?_
  refine lv_bipush (v := 16) hx hb dX1_readCommand_8 (by decide) ?_
  refine lv_icmp_ge (tgt := 17) hx hb dX1_readCommand_10 (by decide) (fun c1 => ?_) (fun c1 => ?_)
  · have h := of_t h c1
    refine lv_iconst (v := 0) hx hb dX1_readCommand_17 (by decide) ?_
    exact t_X1_readCommand_18  hF 0 σ _ _ _ h hP hS (lv_sub hl [0] rfl)
  · have h := of_f h c1
    refine lv_iconst (v := 1) hx hb dX1_readCommand_13 (by decide) ?_
    refine lv_goto (tgt := 18) hx hb dX1_readCommand_14 (by decide) ?_
    exact t_X1_readCommand_18  hF 1 σ _ _ _ h hP hS (lv_sub hl [0] rfl)

abbrev rm_X1_readProgram : Room := { frames := 106, cells := 0, slots := 0, locals := 4143 }
def f_X1_readProgram_142 (s0 : Int32) (σ : Sta) : Option (Unit × Sta) :=
  bnd (f_X1_demand s0 7 (gI σ 260) σ) (fun _ σ2 =>
  some ((), σ2))
set_option maxHeartbeats 4000000 in
set_option maxRecDepth 100000 in
theorem t_X1_readProgram_142 {l : Launch} {D : va_G} {Y : CYs} {E : Nat → Nat} {p : Program} {e : Env} {s : State} {m : MethodId} {args : Array Value} {below : List Frame} {meth : Method} {c : Code} (hF : Fr p s m args meth c RX1 cX1_readProgram 3 none D Y E LC) {o : Unit × Sta} : ∀ (s0 : Int32) (σ : Sta) (H : Heap) (locs : List Loc) (ls : Array Slot), f_X1_readProgram_142 s0 σ = some o → va_P D vwCl (wd Y E σ 0 LC) H → va_S (AF E LC.length s.heap.size) s.heap H locs → lv_has ls 3 [(0, .ref (E 4))] → WV p l e rm_X1_readProgram s m args below meth c LC Y D E o H locs (F0 m 142 ls [.int s0, .ref (E 4)]) := by
  intro s0 σ H locs ls h hP hS hl
  unfold f_X1_readProgram_142 at h
  obtain ⟨hC, hb, hml, hr, hlk, hD, hSW⟩ := id hF
  have hx := hC.1
  refine lv_bipush (v := 7) hx hb dX1_readProgram_142 (by decide) ?_
  refine lv_aload_n hx hb dX1_readProgram_144 rfl (lv_at hl 0 rfl) ?_
  refine gf_X1_43 hC hb hP dX1_readProgram_145 ?_
  obtain ⟨r1, σ2, g3, h⟩ := of_bnd h
  refine x_VV (As := [.int s0, .int 7, .int (gI σ 260)]) (rest := []) hF hl hP hS (c_X1_demand g3) (cw_X1_62 hC rfl rfl ⟨Nat.le_of_ble_eq_true rfl, Nat.le_of_ble_eq_true rfl⟩) lc_4 rfl rfl rfl (Nat.le_of_ble_eq_true rfl) dX1_readProgram_148 ⟨Nat.zero_le _, Nat.zero_le _⟩ (fun H locs hP hS => ?_)
  exact x_vret hF hP hS h dX1_readProgram_151

def f_X1_readProgram_141 (σ : Sta) : Option (Unit × Sta) :=
  f_X1_readProgram_142 0 σ
set_option maxHeartbeats 4000000 in
set_option maxRecDepth 100000 in
theorem t_X1_readProgram_141 {l : Launch} {D : va_G} {Y : CYs} {E : Nat → Nat} {p : Program} {e : Env} {s : State} {m : MethodId} {args : Array Value} {below : List Frame} {meth : Method} {c : Code} (hF : Fr p s m args meth c RX1 cX1_readProgram 3 none D Y E LC) {o : Unit × Sta} : ∀ (σ : Sta) (H : Heap) (locs : List Loc) (ls : Array Slot), f_X1_readProgram_141 σ = some o → va_P D vwCl (wd Y E σ 0 LC) H → va_S (AF E LC.length s.heap.size) s.heap H locs → lv_has ls 3 [(0, .ref (E 4))] → WV p l e rm_X1_readProgram s m args below meth c LC Y D E o H locs (F0 m 141 ls [.ref (E 4)]) := by
  intro σ H locs ls h hP hS hl
  unfold f_X1_readProgram_141 at h
  obtain ⟨hC, hb, hml, hr, hlk, hD, hSW⟩ := id hF
  have hx := hC.1
  refine lv_iconst (v := 0) hx hb dX1_readProgram_141 (by decide) ?_
  exact t_X1_readProgram_142  hF 0 σ _ _ _ h hP hS (lv_sub hl [0] rfl)

def f_X1_readProgram_116 (σ : Sta) : Option (Unit × Sta) :=
  if gI σ 192 ≤ 0 then
    f_X1_readProgram_141 σ
  else
    if gI σ 202 ≤ 0 then
      f_X1_readProgram_141 σ
    else
      f_X1_readProgram_142 1 σ
set_option maxHeartbeats 4000000 in
set_option maxRecDepth 100000 in
theorem t_X1_readProgram_116 {l : Launch} {D : va_G} {Y : CYs} {E : Nat → Nat} {p : Program} {e : Env} {s : State} {m : MethodId} {args : Array Value} {below : List Frame} {meth : Method} {c : Code} (hF : Fr p s m args meth c RX1 cX1_readProgram 3 none D Y E LC) {o : Unit × Sta} : ∀ (σ : Sta) (H : Heap) (locs : List Loc) (ls : Array Slot), f_X1_readProgram_116 σ = some o → va_P D vwCl (wd Y E σ 0 LC) H → va_S (AF E LC.length s.heap.size) s.heap H locs → lv_has ls 3 [(0, .ref (E 4))] → WV p l e rm_X1_readProgram s m args below meth c LC Y D E o H locs (F0 m 116 ls []) := by
  intro σ H locs ls h hP hS hl
  unfold f_X1_readProgram_116 at h
  obtain ⟨hC, hb, hml, hr, hlk, hD, hSW⟩ := id hF
  have hx := hC.1
  refine lv_aload_n hx hb dX1_readProgram_116 rfl (lv_at hl 0 rfl) ?_
  refine lv_aload_n hx hb dX1_readProgram_117 rfl (lv_at hl 0 rfl) ?_
  refine gf_X1_19 hC hb hP dX1_readProgram_118 ?_
  refine gf_X1_54 hC hb hP dX1_readProgram_121 ?_
  refine lv_if_le (tgt := 141) hx hb dX1_readProgram_124 (by decide) (fun c1 => ?_) (fun c1 => ?_)
  · have h := of_t h c1
    exact t_X1_readProgram_141  hF σ _ _ _ h hP hS (lv_sub hl [0] rfl)
  · have h := of_f h c1
    refine lv_aload_n hx hb dX1_readProgram_127 rfl (lv_at hl 0 rfl) ?_
    refine gf_X1_19 hC hb hP dX1_readProgram_128 ?_
    refine gf_X1_59 hC hb hP dX1_readProgram_131 ?_
    refine lv_if_le (tgt := 141) hx hb dX1_readProgram_134 (by decide) (fun c2 => ?_) (fun c2 => ?_)
    · have h := of_t h c2
      exact t_X1_readProgram_141  hF σ _ _ _ h hP hS (lv_sub hl [0] rfl)
    · have h := of_f h c2
      refine lv_iconst (v := 1) hx hb dX1_readProgram_137 (by decide) ?_
      refine lv_goto (tgt := 142) hx hb dX1_readProgram_138 (by decide) ?_
      exact t_X1_readProgram_142  hF 1 σ _ _ _ h hP hS (lv_sub hl [0] rfl)

def f_X1_readProgram_89 (k7 : Int32 → Sta → Option (Unit × Sta)) (v2 : Int32) (σ : Sta) : Option (Unit × Sta) :=
  lt (v2 + 1) (fun x1 =>
  if 1500 ≤ x1 then
    f_X1_readProgram_116 σ
  else
    if gI σ 262 = 0 then
      bnd (f_X1_look σ) (fun r4 σ5 =>
      if r4 = 278 then
        f_X1_readProgram_116 σ5
      else
        k7 x1 σ5)
    else
      f_X1_readProgram_116 σ)
set_option maxHeartbeats 4000000 in
set_option maxRecDepth 100000 in
theorem t_X1_readProgram_89 {l : Launch} {D : va_G} {Y : CYs} {E : Nat → Nat} {p : Program} {e : Env} {s : State} {m : MethodId} {args : Array Value} {below : List Frame} {meth : Method} {c : Code} (hF : Fr p s m args meth c RX1 cX1_readProgram 3 none D Y E LC) {o : Unit × Sta} (k7 : Int32 → Sta → Option (Unit × Sta)) (hk7 : ∀ (v2 : Int32) (σ : Sta) (H : Heap) (locs : List Loc) (ls : Array Slot), k7 v2 σ = some o → va_P D vwCl (wd Y E σ 0 LC) H → va_S (AF E LC.length s.heap.size) s.heap H locs → lv_has ls 3 [(0, .ref (E 4)), (2, .int v2)] → WV p l e rm_X1_readProgram s m args below meth c LC Y D E o H locs (F0 m 7 ls [])) : ∀ (v2 : Int32) (σ : Sta) (H : Heap) (locs : List Loc) (ls : Array Slot), f_X1_readProgram_89 k7 v2 σ = some o → va_P D vwCl (wd Y E σ 0 LC) H → va_S (AF E LC.length s.heap.size) s.heap H locs → lv_has ls 3 [(0, .ref (E 4)), (2, .int v2)] → WV p l e rm_X1_readProgram s m args below meth c LC Y D E o H locs (F0 m 89 ls []) := by
  intro v2 σ H locs ls h hP hS hl
  unfold f_X1_readProgram_89 at h
  obtain ⟨hC, hb, hml, hr, hlk, hD, hSW⟩ := id hF
  have hx := hC.1
  obtain ⟨x1, ex1⟩ : ∃ y : Int32, y = v2 + 1 := ⟨_, rfl⟩
  have h := of_lt h ex1
  refine lv_iinc (v := x1) (lv' := [(2, .int x1), (0, .ref (E 4))]) hx hb dX1_readProgram_89 hl (k := 1) rfl (by rw [ex1]; rfl) (by decide) rfl (fun ls hl => ?_)
  refine lv_iload_n hx hb dX1_readProgram_92 rfl (lv_at hl 0 rfl) ?_
  refine lv_sipush (v := 1500) hx hb dX1_readProgram_93 (by decide) ?_
  refine lv_icmp_ge (tgt := 116) hx hb dX1_readProgram_96 (by decide) (fun c2 => ?_) (fun c2 => ?_)
  · have h := of_t h c2
    exact t_X1_readProgram_116  hF σ _ _ _ h hP hS (lv_sub hl [1] rfl)
  · have h := of_f h c2
    refine lv_aload_n hx hb dX1_readProgram_99 rfl (lv_at hl 1 rfl) ?_
    refine gf_X1_51 hC hb hP dX1_readProgram_100 ?_
    refine lv_if_ne (tgt := 116) hx hb dX1_readProgram_103 (by decide) (fun c3 => ?_) (fun c3 => ?_)
    · have h := of_f h c3
      exact t_X1_readProgram_116  hF σ _ _ _ h hP hS (lv_sub hl [1] rfl)
    · have h := of_t h c3
      refine lv_aload_n hx hb dX1_readProgram_106 rfl (lv_at hl 1 rfl) ?_
      obtain ⟨r4, σ5, g6, h⟩ := of_bnd h
      refine x_VI (As := []) (rest := []) hF hl hP hS (c_X1_look g6) (cw_X1_27 hC rfl rfl ⟨Nat.le_of_ble_eq_true rfl, Nat.le_of_ble_eq_true rfl⟩) lc_4 rfl rfl rfl (Nat.le_of_ble_eq_true rfl) dX1_readProgram_107 ⟨Nat.zero_le _, Nat.zero_le _⟩ (fun H locs hP hS => ?_)
      refine lv_sipush (v := 278) hx hb dX1_readProgram_110 (by decide) ?_
      refine lv_icmp_ne (tgt := 7) hx hb dX1_readProgram_113 (by decide) (fun c7 => ?_) (fun c7 => ?_)
      · have h := of_f h c7
        exact hk7 x1 σ5 _ _ _ h hP hS (lv_sub hl [1, 0] rfl)
      · have h := of_t h c7
        exact t_X1_readProgram_116  hF σ5 _ _ _ h hP hS (lv_sub hl [1] rfl)

def f_X1_readProgram_7 : Nat → Int32 → Sta → Option (Unit × Sta)
  | 0, _, _ => none
  | n + 1, v2, σ => bnd (f_X1_look σ) (fun r1 σ2 =>
    if r1 = 256 then
      bnd (f_X1_readVariable σ2) (fun _ σ6 =>
      f_X1_readProgram_89 (f_X1_readProgram_7 n) v2 σ6)
    else if r1 = 257 then
      bnd (f_X1_fail 1 (gI σ2 260) σ2) (fun _ σ10 =>
      f_X1_readProgram_89 (f_X1_readProgram_7 n) v2 σ10)
    else if r1 = 258 then
      bnd (f_X1_fail 1 (gI σ2 260) σ2) (fun _ σ14 =>
      f_X1_readProgram_89 (f_X1_readProgram_7 n) v2 σ14)
    else if r1 = 259 then
      bnd (f_X1_readGain σ2) (fun _ σ18 =>
      f_X1_readProgram_89 (f_X1_readProgram_7 n) v2 σ18)
    else if r1 = 260 then
      bnd (f_X1_fail 1 (gI σ2 260) σ2) (fun _ σ22 =>
      f_X1_readProgram_89 (f_X1_readProgram_7 n) v2 σ22)
    else if r1 = 261 then
      bnd (f_X1_readGoal σ2) (fun _ σ26 =>
      f_X1_readProgram_89 (f_X1_readProgram_7 n) v2 σ26)
    else if r1 = 262 then
      bnd (f_X1_readCommand σ2) (fun _ σ30 =>
      f_X1_readProgram_89 (f_X1_readProgram_7 n) v2 σ30)
    else 
      bnd (f_X1_fail 1 (gI σ2 260) σ2) (fun _ σ33 =>
      f_X1_readProgram_89 (f_X1_readProgram_7 n) v2 σ33))
set_option maxHeartbeats 4000000 in
set_option maxRecDepth 100000 in
theorem t_X1_readProgram_7 {l : Launch} {D : va_G} {Y : CYs} {E : Nat → Nat} {p : Program} {e : Env} {s : State} {m : MethodId} {args : Array Value} {below : List Frame} {meth : Method} {c : Code} (hF : Fr p s m args meth c RX1 cX1_readProgram 3 none D Y E LC) {o : Unit × Sta} : ∀ (n : Nat) (v2 : Int32) (σ : Sta) (H : Heap) (locs : List Loc) (ls : Array Slot), f_X1_readProgram_7 n v2 σ = some o → va_P D vwCl (wd Y E σ 0 LC) H → va_S (AF E LC.length s.heap.size) s.heap H locs → lv_has ls 3 [(0, .ref (E 4)), (2, .int v2)] → WV p l e rm_X1_readProgram s m args below meth c LC Y D E o H locs (F0 m 7 ls []) := by
  intro n
  induction n with
  | zero =>
    intro v2 σ H locs ls h hP hS hl
    exact nomatch (show (none : Option (Unit × Sta)) = some o from h)
  | succ n ih =>
    intro v2 σ H locs ls h hP hS hl
    rw [f_X1_readProgram_7] at h
    obtain ⟨hC, hb, hml, hr, hlk, hD, hSW⟩ := id hF
    have hx := hC.1
    refine lv_aload_n hx hb dX1_readProgram_7 rfl (lv_at hl 0 rfl) ?_
    obtain ⟨r1, σ2, g3, h⟩ := of_bnd h
    refine x_VI (As := []) (rest := []) hF hl hP hS (c_X1_look g3) (cw_X1_27 hC rfl rfl ⟨Nat.le_of_ble_eq_true rfl, Nat.le_of_ble_eq_true rfl⟩) lc_4 rfl rfl rfl (Nat.le_of_ble_eq_true rfl) dX1_readProgram_8 ⟨Nat.zero_le _, Nat.zero_le _⟩ (fun H locs hP hS => ?_)
    by_cases c4 : r1 = 256
    · have h := of_t h c4
      refine lv_tableIn (tgt := 52) hx hb dX1_readProgram_11 (by rw [c4]; try decide) (by rw [c4]; try decide) (by rw [c4]; try rfl) (by decide) ?_
      refine lv_aload_n hx hb dX1_readProgram_52 rfl (lv_at hl 0 rfl) ?_
      obtain ⟨r5, σ6, g7, h⟩ := of_bnd h
      refine x_VV (As := []) (rest := []) hF hl hP hS (c_X1_readVariable g7) (cw_X1_31 hC rfl rfl ⟨Nat.le_of_ble_eq_true rfl, Nat.le_of_ble_eq_true rfl⟩) lc_4 rfl rfl rfl (Nat.le_of_ble_eq_true rfl) dX1_readProgram_53 ⟨Nat.zero_le _, Nat.zero_le _⟩ (fun H locs hP hS => ?_)
      refine lv_goto (tgt := 89) hx hb dX1_readProgram_56 (by decide) ?_
      exact t_X1_readProgram_89  hF (f_X1_readProgram_7 n) ih v2 σ6 _ _ _ h hP hS (lv_sub hl [0, 1] rfl)
    · have h := of_f h c4
      by_cases c8 : r1 = 257
      · have h := of_t h c8
        refine lv_tableIn (tgt := 80) hx hb dX1_readProgram_11 (by rw [c8]; try decide) (by rw [c8]; try decide) (by rw [c8]; try rfl) (by decide) ?_
        refine lv_aload_n hx hb dX1_readProgram_80 rfl (lv_at hl 0 rfl) ?_
        refine lv_iconst (v := 1) hx hb dX1_readProgram_81 (by decide) ?_
        refine lv_aload_n hx hb dX1_readProgram_82 rfl (lv_at hl 0 rfl) ?_
        refine gf_X1_43 hC hb hP dX1_readProgram_83 ?_
        obtain ⟨r9, σ10, g11, h⟩ := of_bnd h
        refine x_VV (As := [.int 1, .int (gI σ2 260)]) (rest := []) hF hl hP hS (c_X1_fail g11) (cw_X1_47 hC rfl rfl ⟨Nat.le_of_ble_eq_true rfl, Nat.le_of_ble_eq_true rfl⟩) lc_4 rfl rfl rfl (Nat.le_of_ble_eq_true rfl) dX1_readProgram_86 ⟨Nat.zero_le _, Nat.zero_le _⟩ (fun H locs hP hS => ?_)
        exact t_X1_readProgram_89  hF (f_X1_readProgram_7 n) ih v2 σ10 _ _ _ h hP hS (lv_sub hl [0, 1] rfl)
      · have h := of_f h c8
        by_cases c12 : r1 = 258
        · have h := of_t h c12
          refine lv_tableIn (tgt := 80) hx hb dX1_readProgram_11 (by rw [c12]; try decide) (by rw [c12]; try decide) (by rw [c12]; try rfl) (by decide) ?_
          refine lv_aload_n hx hb dX1_readProgram_80 rfl (lv_at hl 0 rfl) ?_
          refine lv_iconst (v := 1) hx hb dX1_readProgram_81 (by decide) ?_
          refine lv_aload_n hx hb dX1_readProgram_82 rfl (lv_at hl 0 rfl) ?_
          refine gf_X1_43 hC hb hP dX1_readProgram_83 ?_
          obtain ⟨r13, σ14, g15, h⟩ := of_bnd h
          refine x_VV (As := [.int 1, .int (gI σ2 260)]) (rest := []) hF hl hP hS (c_X1_fail g15) (cw_X1_47 hC rfl rfl ⟨Nat.le_of_ble_eq_true rfl, Nat.le_of_ble_eq_true rfl⟩) lc_4 rfl rfl rfl (Nat.le_of_ble_eq_true rfl) dX1_readProgram_86 ⟨Nat.zero_le _, Nat.zero_le _⟩ (fun H locs hP hS => ?_)
          exact t_X1_readProgram_89  hF (f_X1_readProgram_7 n) ih v2 σ14 _ _ _ h hP hS (lv_sub hl [0, 1] rfl)
        · have h := of_f h c12
          by_cases c16 : r1 = 259
          · have h := of_t h c16
            refine lv_tableIn (tgt := 59) hx hb dX1_readProgram_11 (by rw [c16]; try decide) (by rw [c16]; try decide) (by rw [c16]; try rfl) (by decide) ?_
            refine lv_aload_n hx hb dX1_readProgram_59 rfl (lv_at hl 0 rfl) ?_
            obtain ⟨r17, σ18, g19, h⟩ := of_bnd h
            refine x_VV (As := []) (rest := []) hF hl hP hS (c_X1_readGain g19) (cw_X1_34 hC rfl rfl ⟨Nat.le_of_ble_eq_true rfl, Nat.le_of_ble_eq_true rfl⟩) lc_4 rfl rfl rfl (Nat.le_of_ble_eq_true rfl) dX1_readProgram_60 ⟨Nat.zero_le _, Nat.zero_le _⟩ (fun H locs hP hS => ?_)
            refine lv_goto (tgt := 89) hx hb dX1_readProgram_63 (by decide) ?_
            exact t_X1_readProgram_89  hF (f_X1_readProgram_7 n) ih v2 σ18 _ _ _ h hP hS (lv_sub hl [0, 1] rfl)
          · have h := of_f h c16
            by_cases c20 : r1 = 260
            · have h := of_t h c20
              refine lv_tableIn (tgt := 80) hx hb dX1_readProgram_11 (by rw [c20]; try decide) (by rw [c20]; try decide) (by rw [c20]; try rfl) (by decide) ?_
              refine lv_aload_n hx hb dX1_readProgram_80 rfl (lv_at hl 0 rfl) ?_
              refine lv_iconst (v := 1) hx hb dX1_readProgram_81 (by decide) ?_
              refine lv_aload_n hx hb dX1_readProgram_82 rfl (lv_at hl 0 rfl) ?_
              refine gf_X1_43 hC hb hP dX1_readProgram_83 ?_
              obtain ⟨r21, σ22, g23, h⟩ := of_bnd h
              refine x_VV (As := [.int 1, .int (gI σ2 260)]) (rest := []) hF hl hP hS (c_X1_fail g23) (cw_X1_47 hC rfl rfl ⟨Nat.le_of_ble_eq_true rfl, Nat.le_of_ble_eq_true rfl⟩) lc_4 rfl rfl rfl (Nat.le_of_ble_eq_true rfl) dX1_readProgram_86 ⟨Nat.zero_le _, Nat.zero_le _⟩ (fun H locs hP hS => ?_)
              exact t_X1_readProgram_89  hF (f_X1_readProgram_7 n) ih v2 σ22 _ _ _ h hP hS (lv_sub hl [0, 1] rfl)
            · have h := of_f h c20
              by_cases c24 : r1 = 261
              · have h := of_t h c24
                refine lv_tableIn (tgt := 66) hx hb dX1_readProgram_11 (by rw [c24]; try decide) (by rw [c24]; try decide) (by rw [c24]; try rfl) (by decide) ?_
                refine lv_aload_n hx hb dX1_readProgram_66 rfl (lv_at hl 0 rfl) ?_
                obtain ⟨r25, σ26, g27, h⟩ := of_bnd h
                refine x_VV (As := []) (rest := []) hF hl hP hS (c_X1_readGoal g27) (cw_X1_37 hC rfl rfl ⟨Nat.le_of_ble_eq_true rfl, Nat.le_of_ble_eq_true rfl⟩) lc_4 rfl rfl rfl (Nat.le_of_ble_eq_true rfl) dX1_readProgram_67 ⟨Nat.zero_le _, Nat.zero_le _⟩ (fun H locs hP hS => ?_)
                refine lv_goto (tgt := 89) hx hb dX1_readProgram_70 (by decide) ?_
                exact t_X1_readProgram_89  hF (f_X1_readProgram_7 n) ih v2 σ26 _ _ _ h hP hS (lv_sub hl [0, 1] rfl)
              · have h := of_f h c24
                by_cases c28 : r1 = 262
                · have h := of_t h c28
                  refine lv_tableIn (tgt := 73) hx hb dX1_readProgram_11 (by rw [c28]; try decide) (by rw [c28]; try decide) (by rw [c28]; try rfl) (by decide) ?_
                  refine lv_aload_n hx hb dX1_readProgram_73 rfl (lv_at hl 0 rfl) ?_
                  obtain ⟨r29, σ30, g31, h⟩ := of_bnd h
                  refine x_VV (As := []) (rest := []) hF hl hP hS (c_X1_readCommand g31) (cw_X1_40 hC rfl rfl ⟨Nat.le_of_ble_eq_true rfl, Nat.le_of_ble_eq_true rfl⟩) lc_4 rfl rfl rfl (Nat.le_of_ble_eq_true rfl) dX1_readProgram_74 ⟨Nat.zero_le _, Nat.zero_le _⟩ (fun H locs hP hS => ?_)
                  refine lv_goto (tgt := 89) hx hb dX1_readProgram_77 (by decide) ?_
                  exact t_X1_readProgram_89  hF (f_X1_readProgram_7 n) ih v2 σ30 _ _ _ h hP hS (lv_sub hl [0, 1] rfl)
                · have h := of_f h c28
                  refine lv_tableOut (tgt := 80) hx hb dX1_readProgram_11 (by have nc4 := lv_neT (a := 256) c4 (by decide); have nc8 := lv_neT (a := 257) c8 (by decide); have nc12 := lv_neT (a := 258) c12 (by decide); have nc16 := lv_neT (a := 259) c16 (by decide); have nc20 := lv_neT (a := 260) c20 (by decide); have nc24 := lv_neT (a := 261) c24 (by decide); have nc28 := lv_neT (a := 262) c28 (by decide); omega) (by decide) ?_
                  refine lv_aload_n hx hb dX1_readProgram_80 rfl (lv_at hl 0 rfl) ?_
                  refine lv_iconst (v := 1) hx hb dX1_readProgram_81 (by decide) ?_
                  refine lv_aload_n hx hb dX1_readProgram_82 rfl (lv_at hl 0 rfl) ?_
                  refine gf_X1_43 hC hb hP dX1_readProgram_83 ?_
                  obtain ⟨r32, σ33, g34, h⟩ := of_bnd h
                  refine x_VV (As := [.int 1, .int (gI σ2 260)]) (rest := []) hF hl hP hS (c_X1_fail g34) (cw_X1_47 hC rfl rfl ⟨Nat.le_of_ble_eq_true rfl, Nat.le_of_ble_eq_true rfl⟩) lc_4 rfl rfl rfl (Nat.le_of_ble_eq_true rfl) dX1_readProgram_86 ⟨Nat.zero_le _, Nat.zero_le _⟩ (fun H locs hP hS => ?_)
                  exact t_X1_readProgram_89  hF (f_X1_readProgram_7 n) ih v2 σ33 _ _ _ h hP hS (lv_sub hl [0, 1] rfl)

def f_X1_readProgram (a1 : Int32) (σ : Sta) : Option (Unit × Sta) :=
  bnd (f_X1_begin a1 σ) (fun _ σ2 =>
  f_X1_readProgram_7 FU 0 σ2)
set_option maxHeartbeats 4000000 in
set_option maxRecDepth 100000 in
theorem c_X1_readProgram {l : Launch} {D : va_G} {Y : CYs} {E : Nat → Nat} {a1 : Int32} {σ : Sta} {o : Unit × Sta} (h : f_X1_readProgram a1 σ = some o) : MV l yX1_readProgram (Cond.code yX1_readProgram cX1_readProgram 3 none :: gW) rm_X1_readProgram LC Y D E [.ref (E 4), .int a1] σ o := by
  intro sz
  refine Met_of (Qc := fun sz => QV LC Y D E sz o) (by decide) (Nat.le_of_ble_eq_true rfl) (fun p e s m args below meth c hF hP ls hl => ?_) sz
  have hS : va_S (AF E LC.length s.heap.size) s.heap s.heap [] := va_S.rf
  have hl : lv_has ls 3 [(0, .ref (E 4)), (1, .int a1)] := hl
  show WV p l e rm_X1_readProgram s m args below meth c LC Y D E o s.heap [] (F0 m 0 ls [])
  unfold f_X1_readProgram at h
  obtain ⟨hC, hb, hml, hr, hlk, hD, hSW⟩ := id hF
  have hx := hC.1
  refine lv_aload_n hx hb dX1_readProgram_0 rfl (lv_at hl 0 rfl) ?_
  refine lv_iload_n hx hb dX1_readProgram_1 rfl (lv_at hl 1 rfl) ?_
  obtain ⟨r1, σ2, g3, h⟩ := of_bnd h
  refine x_VV (As := [.int a1]) (rest := []) hF hl hP hS (c_X1_begin g3) (cw_X1_23 hC rfl rfl ⟨Nat.le_of_ble_eq_true rfl, Nat.le_of_ble_eq_true rfl⟩) lc_4 rfl rfl rfl (Nat.le_of_ble_eq_true rfl) dX1_readProgram_2 ⟨Nat.zero_le _, Nat.zero_le _⟩ (fun H locs hP hS => ?_)
  refine lv_iconst (v := 0) hx hb dX1_readProgram_5 (by decide) ?_
  refine lv_istore_n (lv' := [(2, .int 0), (0, .ref (E 4)), (1, .int a1)]) hx hb dX1_readProgram_6 rfl hl (by decide) rfl (fun ls hl => ?_)
  exact t_X1_readProgram_7  hF FU 0 σ2 _ _ _ h hP hS (lv_sub hl [1, 0] rfl)
