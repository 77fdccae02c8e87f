theorem gf_X2_18 {p : Program} {l : Launch} {e : Env} {R : Room} {s : State} {m : MethodId} {args : Array Value} {below : List Frame} {meth : Method} {c : Code} {H : Heap} {locs : List Loc} {cells slots : Nat} {Q : State → Prop} {D : va_G} {Y : CYs} {E : Nat → Nat} {σ : Sta} {cc : ByteArray} {pc : Nat} {ls : Array Slot} {rest : List Value} (hC : Ctx p s m args RX2 D Y) (hb : c.code = cc) (hP : va_P D vwCl (wd Y E σ 0 LC) H) (hdg : decode cc pc = .ok (.getfield 18, 3)) (kk : W p l e R s m args below meth c H locs cells slots Q (F0 m (pc + 3) ls (.ref (E 5) :: rest))) : W p l e R s m args below meth c H locs cells slots Q (F0 m pc ls (.ref (E 6) :: rest)) :=
  x_getR hC hb hP inGX2 lc_6 rfl 0 (by decide) rfl (gw_t (tb2 (List.mem_of_getElem? (i := 15) rfl)) rfl) rfl hdg kk
theorem gf_X2_37 {p : Program} {l : Launch} {e : Env} {R : Room} {s : State} {m : MethodId} {args : Array Value} {below : List Frame} {meth : Method} {c : Code} {H : Heap} {locs : List Loc} {cells slots : Nat} {Q : State → Prop} {D : va_G} {Y : CYs} {E : Nat → Nat} {σ : Sta} {cc : ByteArray} {pc : Nat} {ls : Array Slot} {rest : List Value} (hC : Ctx p s m args RX2 D Y) (hb : c.code = cc) (hP : va_P D vwCl (wd Y E σ 0 LC) H) (hdg : decode cc pc = .ok (.getfield 37, 3)) (kk : W p l e R s m args below meth c H locs cells slots Q (F0 m (pc + 3) ls (.ref (E 3) :: rest))) : W p l e R s m args below meth c H locs cells slots Q (F0 m pc ls (.ref (E 5) :: rest)) :=
  x_getRN hC hb hP inGX5 lc_5 rfl 0 (by decide) rfl (List.mem_of_getElem? (i := 30) rfl) rfl hdg kk
theorem gf_X2_41 {p : Program} {l : Launch} {e : Env} {R : Room} {s : State} {m : MethodId} {args : Array Value} {below : List Frame} {meth : Method} {c : Code} {H : Heap} {locs : List Loc} {cells slots : Nat} {Q : State → Prop} {D : va_G} {Y : CYs} {E : Nat → Nat} {σ : Sta} {cc : ByteArray} {pc : Nat} {ls : Array Slot} {rest : List Value} (hC : Ctx p s m args RX2 D Y) (hb : c.code = cc) (hP : va_P D vwCl (wd Y E σ 0 LC) H) (hdg : decode cc pc = .ok (.getfield 41, 3)) (kk : W p l e R s m args below meth c H locs cells slots Q (F0 m (pc + 3) ls (.int (gI σ 197) :: rest))) : W p l e R s m args below meth c H locs cells slots Q (F0 m pc ls (.ref (E 3) :: rest)) :=
  x_getIN hC hb hP inGX4 lc_3 rfl 5 (by decide) rfl (List.mem_of_getElem? (i := 12) rfl) rfl hdg kk
theorem gf_X2_90 {p : Program} {l : Launch} {e : Env} {R : Room} {s : State} {m : MethodId} {args : Array Value} {below : List Frame} {meth : Method} {c : Code} {H : Heap} {locs : List Loc} {cells slots : Nat} {Q : State → Prop} {D : va_G} {Y : CYs} {E : Nat → Nat} {σ : Sta} {cc : ByteArray} {pc : Nat} {ls : Array Slot} {rest : List Value} (hC : Ctx p s m args RX2 D Y) (hb : c.code = cc) (hP : va_P D vwCl (wd Y E σ 0 LC) H) {d : Nat} (hd : d < 13) (hdg : decode cc pc = .ok (.getfield 90, 3)) (kk : W p l e R s m args below meth c H locs cells slots Q (F0 m (pc + 3) ls (.ref (E (41 + 5 * d + 1)) :: rest))) : W p l e R s m args below meth c H locs cells slots Q (F0 m pc ls (.ref (E (41 + 5 * d)) :: rest)) :=
  x_getRN hC hb hP inGX6 (lc_s0 hd) rfl 0 (by decide) rfl (List.mem_of_getElem? (i := 37) rfl) rfl hdg kk
theorem cw_X2_93 {R : Room} {p : Program} {s : State} {m : MethodId} {args : Array Value} {D : va_G} {Y : CYs} {rm : Room} (hC : Ctx p s m args RX2 D Y) (hrc : rm.cells = 0) (hrs : rm.slots = 0) (hR : rm.frames + 1 ≤ R.frames ∧ 8 + (5 + 11) + rm.locals ≤ R.locals) : CallW R s args RX2 RX5 93 yX5_gainOf cX5_gainOf 5 (some .long) (Cond.code yX5_gainOf cX5_gainOf 5 (some .long) :: gW) rm 0 0 3 :=
  cwV 3 hC.2.1 (gi_V (gw_t (tb3 (List.mem_of_getElem? (i := 78) rfl)) rfl) (gw_t (tb2 (List.mem_of_getElem? (i := 234) rfl)) rfl) (gw_t (tb2 (List.mem_of_getElem? (i := 235) rfl)) rfl) (gw_t (tb1 (List.mem_of_getElem? (i := 6) rfl)) rfl) (gw_t (tb2 (List.mem_of_getElem? (i := 236) rfl)) rfl)) rfl hrc hrs ⟨rfl, by decide +kernel, by decide +kernel, by decide +kernel⟩ hR
theorem cw_X2_119 {R : Room} {p : Program} {s : State} {m : MethodId} {args : Array Value} {D : va_G} {Y : CYs} {rm : Room} (hC : Ctx p s m args RX2 D Y) (hrc : rm.cells = 0) (hrs : rm.slots = 0) (hR : rm.frames + 1 ≤ R.frames ∧ 8 + (3 + 11) + rm.locals ≤ R.locals) : CallW R s args RX2 RX5 119 yX5_branchesOf cX5_branchesOf 3 (some .int) (Cond.code yX5_branchesOf cX5_branchesOf 3 (some .int) :: gW) rm 0 0 2 :=
  cwV 2 hC.2.1 (gi_V (gw_t (tb3 (List.mem_of_getElem? (i := 83) rfl)) rfl) (gw_t (tb2 (List.mem_of_getElem? (i := 221) rfl)) rfl) (gw_t (tb2 (List.mem_of_getElem? (i := 222) rfl)) rfl) (gw_t (tb1 (List.mem_of_getElem? (i := 6) rfl)) rfl) (gw_t (tb2 (List.mem_of_getElem? (i := 223) rfl)) rfl)) rfl hrc hrs ⟨rfl, by decide +kernel, by decide +kernel, by decide +kernel⟩ hR
theorem cw_X2_122 {R : Room} {p : Program} {s : State} {m : MethodId} {args : Array Value} {D : va_G} {Y : CYs} {rm : Room} (hC : Ctx p s m args RX2 D Y) (hrc : rm.cells = 0) (hrs : rm.slots = 0) (hR : rm.frames + 1 ≤ R.frames ∧ 8 + (4 + 11) + rm.locals ≤ R.locals) : CallW R s args RX2 RX5 122 yX5_targetOf cX5_targetOf 4 (some .int) (Cond.code yX5_targetOf cX5_targetOf 4 (some .int) :: gW) rm 0 0 3 :=
  cwV 3 hC.2.1 (gi_V (gw_t (tb3 (List.mem_of_getElem? (i := 84) rfl)) rfl) (gw_t (tb3 (List.mem_of_getElem? (i := 9) rfl)) rfl) (gw_t (tb3 (List.mem_of_getElem? (i := 10) rfl)) rfl) (gw_t (tb1 (List.mem_of_getElem? (i := 6) rfl)) rfl) (gw_t (tb3 (List.mem_of_getElem? (i := 11) rfl)) rfl)) rfl hrc hrs ⟨rfl, by decide +kernel, by decide +kernel, by decide +kernel⟩ hR
theorem cw_X2_126 {R : Room} {p : Program} {s : State} {m : MethodId} {args : Array Value} {D : va_G} {Y : CYs} {rm : Room} (hC : Ctx p s m args RX2 D Y) (hrc : rm.cells = 0) (hrs : rm.slots = 0) (hR : rm.frames + 1 ≤ R.frames ∧ 8 + (2 + 11) + rm.locals ≤ R.locals) : va_CN R s args RX2 126 yX8_entry_ "MarkovBench" cX8_entry_ 2 (some .long) (Cond.code yX8_entry_ cX8_entry_ 2 (some .long) :: gW) rm 0 0 2 ∧ (Cond.static yX8_entry_).before args s = true :=
  ⟨va_cnB 2 hC.2.1 (gi_law (gw_t (tb2 (List.mem_of_getElem? (i := 239) rfl)) rfl)) rfl hrc hrs (hC.2.2.2.2.1 (Cond.methodLinkNest RX2 126 yX8_entry_ "MarkovBench") (List.mem_of_getElem? (i := 50) rfl)) (hC.2.1 (Cond.initialized RX8) (gw_t (tb1 (List.mem_of_getElem? (i := 1) rfl)) rfl)) ⟨by decide +kernel, by decide +kernel, by decide +kernel⟩ hR, hC.2.1 _ (gw_t (tb2 (List.mem_of_getElem? (i := 238) rfl)) rfl)⟩
theorem cw_X2_130 {R : Room} {p : Program} {s : State} {m : MethodId} {args : Array Value} {D : va_G} {Y : CYs} {rm : Room} (hC : Ctx p s m args RX2 D Y) (hrc : rm.cells = 0) (hrs : rm.slots = 0) (hR : rm.frames + 1 ≤ R.frames ∧ 8 + (4 + 11) + rm.locals ≤ R.locals) : CallW R s args RX2 RX5 130 yX5_chanceOf cX5_chanceOf 4 (some .int) (Cond.code yX5_chanceOf cX5_chanceOf 4 (some .int) :: gW) rm 0 0 3 :=
  cwV 3 hC.2.1 (gi_V (gw_t (tb3 (List.mem_of_getElem? (i := 86) rfl)) rfl) (gw_t (tb3 (List.mem_of_getElem? (i := 5) rfl)) rfl) (gw_t (tb3 (List.mem_of_getElem? (i := 6) rfl)) rfl) (gw_t (tb1 (List.mem_of_getElem? (i := 6) rfl)) rfl) (gw_t (tb3 (List.mem_of_getElem? (i := 7) rfl)) rfl)) rfl hrc hrs ⟨rfl, by decide +kernel, by decide +kernel, by decide +kernel⟩ hR
theorem gf_X2_70 {p : Program} {l : Launch} {e : Env} {R : Room} {s : State} {m : MethodId} {args : Array Value} {below : List Frame} {meth : Method} {c : Code} {H : Heap} {locs : List Loc} {cells slots : Nat} {Q : State → Prop} {D : va_G} {Y : CYs} {E : Nat → Nat} {σ : Sta} {cc : ByteArray} {pc : Nat} {ls : Array Slot} {rest : List Value} (hC : Ctx p s m args RX2 D Y) (hb : c.code = cc) (hP : va_P D vwCl (wd Y E σ 0 LC) H) (hdg : decode cc pc = .ok (.getfield 70, 3)) (kk : W p l e R s m args below meth c H locs cells slots Q (F0 m (pc + 3) ls (.ref (E 33) :: rest))) : W p l e R s m args below meth c H locs cells slots Q (F0 m pc ls (.ref (E 5) :: rest)) :=
  x_getRN hC hb hP inGX5 lc_5 rfl 4 (by decide) rfl (List.mem_of_getElem? (i := 33) rfl) rfl hdg kk
theorem gf_X2_87 {p : Program} {l : Launch} {e : Env} {R : Room} {s : State} {m : MethodId} {args : Array Value} {below : List Frame} {meth : Method} {c : Code} {H : Heap} {locs : List Loc} {cells slots : Nat} {Q : State → Prop} {D : va_G} {Y : CYs} {E : Nat → Nat} {σ : Sta} {cc : ByteArray} {pc : Nat} {ls : Array Slot} {rest : List Value} (hC : Ctx p s m args RX2 D Y) (hb : c.code = cc) (hP : va_P D vwCl (wd Y E σ 0 LC) H) {d : Nat} (hd : d < 13) (hdg : decode cc pc = .ok (.getfield 87, 3)) (kk : W p l e R s m args below meth c H locs cells slots Q (F0 m (pc + 3) ls (.ref (E (41 + 5 * d + 2)) :: rest))) : W p l e R s m args below meth c H locs cells slots Q (F0 m pc ls (.ref (E (41 + 5 * d)) :: rest)) :=
  x_getRN hC hb hP inGX6 (lc_s0 hd) rfl 2 (by decide) rfl (List.mem_of_getElem? (i := 41) rfl) rfl hdg kk
theorem gf_X2_80 {p : Program} {l : Launch} {e : Env} {R : Room} {s : State} {m : MethodId} {args : Array Value} {below : List Frame} {meth : Method} {c : Code} {H : Heap} {locs : List Loc} {cells slots : Nat} {Q : State → Prop} {D : va_G} {Y : CYs} {E : Nat → Nat} {σ : Sta} {cc : ByteArray} {pc : Nat} {ls : Array Slot} {rest : List Value} (hC : Ctx p s m args RX2 D Y) (hb : c.code = cc) (hP : va_P D vwCl (wd Y E σ 0 LC) H) {d : Nat} (hd : d < 13) (hdg : decode cc pc = .ok (.getfield 80, 3)) (kk : W p l e R s m args below meth c H locs cells slots Q (F0 m (pc + 3) ls (.ref (E (41 + 5 * d + 3)) :: rest))) : W p l e R s m args below meth c H locs cells slots Q (F0 m pc ls (.ref (E (41 + 5 * d)) :: rest)) :=
  x_getRN hC hb hP inGX6 (lc_s0 hd) rfl 3 (by decide) rfl (List.mem_of_getElem? (i := 42) rfl) rfl hdg kk
theorem cw_X2_76 {R : Room} {p : Program} {s : State} {m : MethodId} {args : Array Value} {D : va_G} {Y : CYs} {rm : Room} (hC : Ctx p s m args RX2 D Y) (hrc : rm.cells = 0) (hrs : rm.slots = 0) (hR : rm.frames + 1 ≤ R.frames ∧ 8 + (7 + 11) + rm.locals ≤ R.locals) : CallW R s args RX2 RX2 76 yX2_weighted cX2_weighted 7 (some .long) (Cond.code yX2_weighted cX2_weighted 7 (some .long) :: gW) rm 0 0 3 :=
  cwV 3 hC.2.1 (gi_V (gw_t (tb3 (List.mem_of_getElem? (i := 74) rfl)) rfl) (gw_t (tb3 (List.mem_of_getElem? (i := 76) rfl)) rfl) (gw_s (q := (⟨"MarkovBench$Planner", "weighted", "(LMarkovBench$Strategy;II)J"⟩, 3)) (lp1_ (List.mem_of_getElem? (i := 9) rfl))) (gw_t (tb1 (List.mem_of_getElem? (i := 7) rfl)) rfl) (gw_t (tb3 (List.mem_of_getElem? (i := 77) rfl)) rfl)) rfl hrc hrs ⟨rfl, by decide +kernel, by decide +kernel, by decide +kernel⟩ hR
theorem cw_X2_83 {R : Room} {p : Program} {s : State} {m : MethodId} {args : Array Value} {D : va_G} {Y : CYs} {rm : Room} (hC : Ctx p s m args RX2 D Y) (hrc : rm.cells = 0) (hrs : rm.slots = 0) (hR : rm.frames + 1 ≤ R.frames ∧ 8 + (10 + 11) + rm.locals ≤ R.locals) : CallW R s args RX2 RX2 83 yX2_later cX2_later 10 (some .long) (Cond.code yX2_later cX2_later 10 (some .long) :: gW) rm 0 0 4 :=
  cwV 4 hC.2.1 (gi_V (gw_t (tb3 (List.mem_of_getElem? (i := 79) rfl)) rfl) (gw_t (tb3 (List.mem_of_getElem? (i := 81) rfl)) rfl) (gw_s (q := (⟨"MarkovBench$Planner", "later", "([JIII)J"⟩, 3)) (lp1_ (List.mem_of_getElem? (i := 10) rfl))) (gw_t (tb1 (List.mem_of_getElem? (i := 7) rfl)) rfl) (gw_t (tb3 (List.mem_of_getElem? (i := 82) rfl)) rfl)) rfl hrc hrs ⟨rfl, by decide +kernel, by decide +kernel, by decide +kernel⟩ hR
theorem gf_X2_15 {p : Program} {l : Launch} {e : Env} {R : Room} {s : State} {m : MethodId} {args : Array Value} {below : List Frame} {meth : Method} {c : Code} {H : Heap} {locs : List Loc} {cells slots : Nat} {Q : State → Prop} {D : va_G} {Y : CYs} {E : Nat → Nat} {σ : Sta} {cc : ByteArray} {pc : Nat} {ls : Array Slot} {rest : List Value} (hC : Ctx p s m args RX2 D Y) (hb : c.code = cc) (hP : va_P D vwCl (wd Y E σ 0 LC) H) (hdg : decode cc pc = .ok (.getfield 15, 3)) (kk : W p l e R s m args below meth c H locs cells slots Q (F0 m (pc + 3) ls (.ref (E 39) :: rest))) : W p l e R s m args below meth c H locs cells slots Q (F0 m pc ls (.ref (E 6) :: rest)) :=
  x_getR hC hb hP inGX2 lc_6 rfl 2 (by decide) rfl (gw_t (tb2 (List.mem_of_getElem? (i := 17) rfl)) rfl) rfl hdg kk
theorem gf_X2_9 {p : Program} {l : Launch} {e : Env} {R : Room} {s : State} {m : MethodId} {args : Array Value} {below : List Frame} {meth : Method} {c : Code} {H : Heap} {locs : List Loc} {cells slots : Nat} {Q : State → Prop} {D : va_G} {Y : CYs} {E : Nat → Nat} {σ : Sta} {cc : ByteArray} {pc : Nat} {ls : Array Slot} {rest : List Value} (hC : Ctx p s m args RX2 D Y) (hb : c.code = cc) (hP : va_P D vwCl (wd Y E σ 0 LC) H) (hdg : decode cc pc = .ok (.getfield 9, 3)) (kk : W p l e R s m args below meth c H locs cells slots Q (F0 m (pc + 3) ls (.ref (E 38) :: rest))) : W p l e R s m args below meth c H locs cells slots Q (F0 m pc ls (.ref (E 6) :: rest)) :=
  x_getR hC hb hP inGX2 lc_6 rfl 1 (by decide) rfl (gw_t (tb2 (List.mem_of_getElem? (i := 16) rfl)) rfl) rfl hdg kk
theorem gf_X2_22 {p : Program} {l : Launch} {e : Env} {R : Room} {s : State} {m : MethodId} {args : Array Value} {below : List Frame} {meth : Method} {c : Code} {H : Heap} {locs : List Loc} {cells slots : Nat} {Q : State → Prop} {D : va_G} {Y : CYs} {E : Nat → Nat} {σ : Sta} {cc : ByteArray} {pc : Nat} {ls : Array Slot} {rest : List Value} (hC : Ctx p s m args RX2 D Y) (hb : c.code = cc) (hP : va_P D vwCl (wd Y E σ 0 LC) H) {d : Nat} (hd : d < 13) (hdg : decode cc pc = .ok (.getfield 22, 3)) (kk : W p l e R s m args below meth c H locs cells slots Q (F0 m (pc + 3) ls (.int (gI σ (64 * (41 + 5 * d) + 1)) :: rest))) : W p l e R s m args below meth c H locs cells slots Q (F0 m pc ls (.ref (E (41 + 5 * d)) :: rest)) :=
  x_getIN hC hb hP inGX6 (lc_s0 hd) rfl 1 (by decide) rfl (List.mem_of_getElem? (i := 39) rfl) rfl hdg kk
theorem gf_X2_28 {p : Program} {l : Launch} {e : Env} {R : Room} {s : State} {m : MethodId} {args : Array Value} {below : List Frame} {meth : Method} {c : Code} {H : Heap} {locs : List Loc} {cells slots : Nat} {Q : State → Prop} {D : va_G} {Y : CYs} {E : Nat → Nat} {σ : Sta} {cc : ByteArray} {pc : Nat} {ls : Array Slot} {rest : List Value} (hC : Ctx p s m args RX2 D Y) (hb : c.code = cc) (hP : va_P D vwCl (wd Y E σ 0 LC) H) (hdg : decode cc pc = .ok (.getfield 28, 3)) (kk : W p l e R s m args below meth c H locs cells slots Q (F0 m (pc + 3) ls (.int (gI σ 322) :: rest))) : W p l e R s m args below meth c H locs cells slots Q (F0 m pc ls (.ref (E 5) :: rest)) :=
  x_getIN hC hb hP inGX5 lc_5 rfl 2 (by decide) rfl (List.mem_of_getElem? (i := 31) rfl) rfl hdg kk
theorem cw_X2_67 {R : Room} {p : Program} {s : State} {m : MethodId} {args : Array Value} {D : va_G} {Y : CYs} {rm : Room} (hC : Ctx p s m args RX2 D Y) (hrc : rm.cells = 0) (hrs : rm.slots = 0) (hR : rm.frames + 1 ≤ R.frames ∧ 8 + (1 + 11) + rm.locals ≤ R.locals) : CallW R s args RX2 RX2 67 yX2_stepOn cX2_stepOn 1 none (Cond.code yX2_stepOn cX2_stepOn 1 none :: gW) rm 0 0 0 :=
  cwV 0 hC.2.1 (gi_V (gw_t (tb3 (List.mem_of_getElem? (i := 100) rfl)) rfl) (gw_t (tb3 (List.mem_of_getElem? (i := 102) rfl)) rfl) (gw_s (q := (⟨"MarkovBench$Planner", "stepOn", "()V"⟩, 3)) (lp1_ (List.mem_of_getElem? (i := 12) rfl))) (gw_t (tb1 (List.mem_of_getElem? (i := 7) rfl)) rfl) (gw_t (tb3 (List.mem_of_getElem? (i := 103) rfl)) rfl)) rfl hrc hrs ⟨rfl, by decide +kernel, by decide +kernel, by decide +kernel⟩ hR
theorem cw_X2_103 {R : Room} {p : Program} {s : State} {m : MethodId} {args : Array Value} {D : va_G} {Y : CYs} {rm : Room} (hC : Ctx p s m args RX2 D Y) (hrc : rm.cells = 0) (hrs : rm.slots = 0) (hR : rm.frames + 1 ≤ R.frames ∧ 8 + (3 + 11) + rm.locals ≤ R.locals) : CallW R s args RX2 RX6 103 yX6_takenIn cX6_takenIn 3 (some .int) (Cond.code yX6_takenIn cX6_takenIn 3 (some .int) :: gW) rm 0 0 2 :=
  cwV 2 hC.2.1 (gi_V (gw_t (tb3 (List.mem_of_getElem? (i := 95) rfl)) rfl) (gw_t (tb3 (List.mem_of_getElem? (i := 96) rfl)) rfl) (gw_t (tb3 (List.mem_of_getElem? (i := 97) rfl)) rfl) (gw_t (tb1 (List.mem_of_getElem? (i := 9) rfl)) rfl) (gw_t (tb3 (List.mem_of_getElem? (i := 98) rfl)) rfl)) rfl hrc hrs ⟨rfl, by decide +kernel, by decide +kernel, by decide +kernel⟩ hR
theorem cw_X2_97 {R : Room} {p : Program} {s : State} {m : MethodId} {args : Array Value} {D : va_G} {Y : CYs} {rm : Room} (hC : Ctx p s m args RX2 D Y) (hrc : rm.cells = 0) (hrs : rm.slots = 0) (hR : rm.frames + 1 ≤ R.frames ∧ 8 + (5 + 11) + rm.locals ≤ R.locals) : CallB R s args RX2 97 yJ7_fill_d0a16 cJ7_fill_d0a16 5 none (Cond.code yJ7_fill_d0a16 cJ7_fill_d0a16 5 none :: gW) rm 0 0 2 ∧ (Cond.static yJ7_fill_d0a16).before args s = true :=
  ⟨callB_of 2 hC.2.1 (gi_law (gw_t (tb3 (List.mem_of_getElem? (i := 94) rfl)) rfl)) rfl hrc hrs (hC.2.1 (Cond.initialized RJ7) (gw_t (tb1 (List.mem_of_getElem? (i := 17) rfl)) rfl)) (hC.2.1 (Cond.methodLink RX2 97 yJ7_fill_d0a16) (gw_t (tb3 (List.mem_of_getElem? (i := 92) rfl)) rfl)) ⟨by decide +kernel, by decide +kernel, by decide +kernel⟩ hR, hC.2.1 (Cond.static yJ7_fill_d0a16) (gw_t (tb3 (List.mem_of_getElem? (i := 93) rfl)) rfl)⟩
theorem cw_X2_107 {R : Room} {p : Program} {s : State} {m : MethodId} {args : Array Value} {D : va_G} {Y : CYs} {rm : Room} (hC : Ctx p s m args RX2 D Y) (hrc : rm.cells = 0) (hrs : rm.slots = 0) (hR : rm.frames + 1 ≤ R.frames ∧ 8 + (2 + 11) + rm.locals ≤ R.locals) : CallW R s args RX2 RX5 107 yX5_isGoal cX5_isGoal 2 (some .boolean) (Cond.code yX5_isGoal cX5_isGoal 2 (some .boolean) :: gW) rm 0 0 1 :=
  cwV 1 hC.2.1 (gi_V (gw_t (tb3 (List.mem_of_getElem? (i := 115) rfl)) rfl) (gw_t (tb3 (List.mem_of_getElem? (i := 116) rfl)) rfl) (gw_t (tb3 (List.mem_of_getElem? (i := 117) rfl)) rfl) (gw_t (tb1 (List.mem_of_getElem? (i := 6) rfl)) rfl) (gw_t (tb3 (List.mem_of_getElem? (i := 118) rfl)) rfl)) rfl hrc hrs ⟨rfl, by decide +kernel, by decide +kernel, by decide +kernel⟩ hR
theorem cw_X2_60 {R : Room} {p : Program} {s : State} {m : MethodId} {args : Array Value} {D : va_G} {Y : CYs} {rm : Room} (hC : Ctx p s m args RX2 D Y) (hrc : rm.cells = 0) (hrs : rm.slots = 0) (hR : rm.frames + 1 ≤ R.frames ∧ 8 + (2 + 11) + rm.locals ≤ R.locals) : CallW R s args RX2 RX2 60 yX2_startChances cX2_startChances 2 none (Cond.code yX2_startChances cX2_startChances 2 none :: gW) rm 0 0 0 :=
  cwV 0 hC.2.1 (gi_V (gw_t (tb3 (List.mem_of_getElem? (i := 111) rfl)) rfl) (gw_t (tb3 (List.mem_of_getElem? (i := 113) rfl)) rfl) (gw_s (q := (⟨"MarkovBench$Planner", "startChances", "()V"⟩, 3)) (lp1_ (List.mem_of_getElem? (i := 14) rfl))) (gw_t (tb1 (List.mem_of_getElem? (i := 7) rfl)) rfl) (gw_t (tb3 (List.mem_of_getElem? (i := 114) rfl)) rfl)) rfl hrc hrs ⟨rfl, by decide +kernel, by decide +kernel, by decide +kernel⟩ hR
theorem cw_X2_33 {R : Room} {p : Program} {s : State} {m : MethodId} {args : Array Value} {D : va_G} {Y : CYs} {rm : Room} (hC : Ctx p s m args RX2 D Y) (hrc : rm.cells = 0) (hrs : rm.slots = 0) (hR : rm.frames + 1 ≤ R.frames ∧ 8 + (10 + 11) + rm.locals ≤ R.locals) : CallW R s args RX2 RX2 33 yX2_choose cX2_choose 10 none (Cond.code yX2_choose cX2_choose 10 none :: gW) rm 0 0 3 :=
  cwV 3 hC.2.1 (gi_V (gw_t (tb3 (List.mem_of_getElem? (i := 69) rfl)) rfl) (gw_t (tb3 (List.mem_of_getElem? (i := 71) rfl)) rfl) (gw_s (q := (⟨"MarkovBench$Planner", "choose", "(LMarkovBench$Strategy;II)V"⟩, 3)) (lp1_ (List.mem_of_getElem? (i := 8) rfl))) (gw_t (tb1 (List.mem_of_getElem? (i := 7) rfl)) rfl) (gw_t (tb3 (List.mem_of_getElem? (i := 72) rfl)) rfl)) rfl hrc hrs ⟨rfl, by decide +kernel, by decide +kernel, by decide +kernel⟩ hR
theorem cw_X2_53 {R : Room} {p : Program} {s : State} {m : MethodId} {args : Array Value} {D : va_G} {Y : CYs} {rm : Room} (hC : Ctx p s m args RX2 D Y) (hrc : rm.cells = 0) (hrs : rm.slots = 0) (hR : rm.frames + 1 ≤ R.frames ∧ 8 + (5 + 11) + rm.locals ≤ R.locals) : CallW R s args RX2 RX2 53 yX2_chanceOfAll cX2_chanceOfAll 5 (some .int) (Cond.code yX2_chanceOfAll cX2_chanceOfAll 5 (some .int) :: gW) rm 0 0 1 :=
  cwV 1 hC.2.1 (gi_V (gw_t (tb3 (List.mem_of_getElem? (i := 107) rfl)) rfl) (gw_t (tb3 (List.mem_of_getElem? (i := 109) rfl)) rfl) (gw_s (q := (⟨"MarkovBench$Planner", "chanceOfAll", "(LMarkovBench$Strategy;)I"⟩, 3)) (lp1_ (List.mem_of_getElem? (i := 13) rfl))) (gw_t (tb1 (List.mem_of_getElem? (i := 7) rfl)) rfl) (gw_t (tb3 (List.mem_of_getElem? (i := 110) rfl)) rfl)) rfl hrc hrs ⟨rfl, by decide +kernel, by decide +kernel, by decide +kernel⟩ hR
theorem pf_X2_57 {p : Program} {l : Launch} {e : Env} {R : Room} {s : State} {m : MethodId} {args : Array Value} {below : List Frame} {meth : Method} {c : Code} {H : Heap} {locs : List Loc} {cells slots : Nat} {Q : State → Prop} {D : va_G} {Y : CYs} {E : Nat → Nat} {σ : Sta} {cc : ByteArray} {pc : Nat} {ls : Array Slot} {rest : List Value} {A : Nat → Prop} {H0 : Heap} {x : Int32} (hC : Ctx p s m args RX2 D Y) (hb : c.code = cc) (hP : va_P D vwCl (wd Y E σ 0 LC) H) (hD : ∀ τ, va_D A (wd Y E τ 0 LC)) (hS : va_S A H0 H locs) {d : Nat} (hd : d < 13) (hdg : decode cc pc = .ok (.putfield 57, 3)) (kk : ∀ (H1 : Heap) (locs1 : List Loc) (τ : Sta), τ = sI σ (64 * (41 + 5 * d) + 5) x → va_P D vwCl (wd Y E τ 0 LC) H1 → va_S A H0 H1 locs1 → W p l e R s m args below meth c H1 locs1 cells slots Q (F0 m (pc + 3) ls rest)) : W p l e R s m args below meth c H locs cells slots Q (F0 m pc ls (.int x :: .ref (E (41 + 5 * d)) :: rest)) :=
  x_putIN lokC hC hb hP hD hS inGX6 tyX6 tyX6_ok nmX6 (lc_s0 hd) rfl 5 (by decide) rfl (List.mem_of_getElem? (i := 46) rfl) rfl rfl rfl rfl rfl hdg kk
theorem gf_X2_46 {p : Program} {l : Launch} {e : Env} {R : Room} {s : State} {m : MethodId} {args : Array Value} {below : List Frame} {meth : Method} {c : Code} {H : Heap} {locs : List Loc} {cells slots : Nat} {Q : State → Prop} {D : va_G} {Y : CYs} {E : Nat → Nat} {σ : Sta} {cc : ByteArray} {pc : Nat} {ls : Array Slot} {rest : List Value} (hC : Ctx p s m args RX2 D Y) (hb : c.code = cc) (hP : va_P D vwCl (wd Y E σ 0 LC) H) {d : Nat} (hd : d < 13) (hdg : decode cc pc = .ok (.getfield 46, 3)) (kk : W p l e R s m args below meth c H locs cells slots Q (F0 m (pc + 3) ls (.ref (E (41 + 5 * d + 4)) :: rest))) : W p l e R s m args below meth c H locs cells slots Q (F0 m pc ls (.ref (E (41 + 5 * d)) :: rest)) :=
  x_getRN hC hb hP inGX6 (lc_s0 hd) rfl 4 (by decide) rfl (List.mem_of_getElem? (i := 44) rfl) rfl hdg kk
theorem cw_X2_49 {R : Room} {p : Program} {s : State} {m : MethodId} {args : Array Value} {D : va_G} {Y : CYs} {rm : Room} (hC : Ctx p s m args RX2 D Y) (hrc : rm.cells = 0) (hrs : rm.slots = 0) (hR : rm.frames + 1 ≤ R.frames ∧ 8 + (6 + 11) + rm.locals ≤ R.locals) : CallW R s args RX2 RX2 49 yX2_gainOfAll cX2_gainOfAll 6 (some .long) (Cond.code yX2_gainOfAll cX2_gainOfAll 6 (some .long) :: gW) rm 0 0 2 :=
  cwV 2 hC.2.1 (gi_V (gw_t (tb3 (List.mem_of_getElem? (i := 88) rfl)) rfl) (gw_t (tb3 (List.mem_of_getElem? (i := 90) rfl)) rfl) (gw_s (q := (⟨"MarkovBench$Planner", "gainOfAll", "(LMarkovBench$Strategy;I)J"⟩, 3)) (lp1_ (List.mem_of_getElem? (i := 11) rfl))) (gw_t (tb1 (List.mem_of_getElem? (i := 7) rfl)) rfl) (gw_t (tb3 (List.mem_of_getElem? (i := 91) rfl)) rfl)) rfl hrc hrs ⟨rfl, by decide +kernel, by decide +kernel, by decide +kernel⟩ hR
theorem cw_X2_63 {R : Room} {p : Program} {s : State} {m : MethodId} {args : Array Value} {D : va_G} {Y : CYs} {rm : Room} (hC : Ctx p s m args RX2 D Y) (hrc : rm.cells = 0) (hrs : rm.slots = 0) (hR : rm.frames + 1 ≤ R.frames ∧ 8 + (8 + 11) + rm.locals ≤ R.locals) : CallW R s args RX2 RX2 63 yX2_extremeIn cX2_extremeIn 8 (some .long) (Cond.code yX2_extremeIn cX2_extremeIn 8 (some .long) :: gW) rm 0 0 2 :=
  cwV 2 hC.2.1 (gi_V (gw_t (tb3 (List.mem_of_getElem? (i := 158) rfl)) rfl) (gw_t (tb3 (List.mem_of_getElem? (i := 160) rfl)) rfl) (gw_s (q := (⟨"MarkovBench$Planner", "extremeIn", "(IZ)J"⟩, 3)) (lp2_ (List.mem_of_getElem? (i := 1) rfl))) (gw_t (tb1 (List.mem_of_getElem? (i := 7) rfl)) rfl) (gw_t (tb3 (List.mem_of_getElem? (i := 161) rfl)) rfl)) rfl hrc hrs ⟨rfl, by decide +kernel, by decide +kernel, by decide +kernel⟩ hR
theorem pf_X3_19 {p : Program} {l : Launch} {e : Env} {R : Room} {s : State} {m : MethodId} {args : Array Value} {below : List Frame} {meth : Method} {c : Code} {H : Heap} {locs : List Loc} {cells slots : Nat} {Q : State → Prop} {D : va_G} {Y : CYs} {E : Nat → Nat} {σ : Sta} {cc : ByteArray} {pc : Nat} {ls : Array Slot} {rest : List Value} {A : Nat → Prop} {H0 : Heap} {x : Int32} (hC : Ctx p s m args RX3 D Y) (hb : c.code = cc) (hP : va_P D vwCl (wd Y E σ 0 LC) H) (hD : ∀ τ, va_D A (wd Y E τ 0 LC)) (hS : va_S A H0 H locs) (hdg : decode cc pc = .ok (.putfield 19, 3)) (kk : ∀ (H1 : Heap) (locs1 : List Loc) (τ : Sta), τ = sI σ 450 x → va_P D vwCl (wd Y E τ 0 LC) H1 → va_S A H0 H1 locs1 → W p l e R s m args below meth c H1 locs1 cells slots Q (F0 m (pc + 3) ls rest)) : W p l e R s m args below meth c H locs cells slots Q (F0 m pc ls (.int x :: .ref (E 7) :: rest)) :=
  x_putI lokC hC hb hP hD hS inGX3 tyX3 tyX3_ok nmX3 lc_7 rfl 2 (by decide) rfl (gw_t (tb2 (List.mem_of_getElem? (i := 32) rfl)) rfl) rfl rfl rfl rfl rfl hdg kk
theorem gf_X3_9 {p : Program} {l : Launch} {e : Env} {R : Room} {s : State} {m : MethodId} {args : Array Value} {below : List Frame} {meth : Method} {c : Code} {H : Heap} {locs : List Loc} {cells slots : Nat} {Q : State → Prop} {D : va_G} {Y : CYs} {E : Nat → Nat} {σ : Sta} {cc : ByteArray} {pc : Nat} {ls : Array Slot} {rest : List Value} (hC : Ctx p s m args RX3 D Y) (hb : c.code = cc) (hP : va_P D vwCl (wd Y E σ 0 LC) H) (hdg : decode cc pc = .ok (.getfield 9, 3)) (kk : W p l e R s m args below meth c H locs cells slots Q (F0 m (pc + 3) ls (.ref (E 40) :: rest))) : W p l e R s m args below meth c H locs cells slots Q (F0 m pc ls (.ref (E 7) :: rest)) :=
  x_getR hC hb hP inGX3 lc_7 rfl 3 (by decide) rfl (gw_t (tb2 (List.mem_of_getElem? (i := 33) rfl)) rfl) rfl hdg kk
theorem cw_X3_23 {R : Room} {p : Program} {s : State} {m : MethodId} {args : Array Value} {D : va_G} {Y : CYs} {rm : Room} (hC : Ctx p s m args RX3 D Y) (hrc : rm.cells = 0) (hrs : rm.slots = 0) (hR : rm.frames + 1 ≤ R.frames ∧ 8 + (5 + 11) + rm.locals ≤ R.locals) : CallB R s args RX3 23 yJ7_fill_d0a16 cJ7_fill_d0a16 5 none (Cond.code yJ7_fill_d0a16 cJ7_fill_d0a16 5 none :: gW) rm 0 0 2 ∧ (Cond.static yJ7_fill_d0a16).before args s = true :=
  ⟨callB_of 2 hC.2.1 (gi_law (gw_t (tb3 (List.mem_of_getElem? (i := 94) rfl)) rfl)) rfl hrc hrs (hC.2.1 (Cond.initialized RJ7) (gw_t (tb1 (List.mem_of_getElem? (i := 17) rfl)) rfl)) (hC.2.1 (Cond.methodLink RX3 23 yJ7_fill_d0a16) (gw_t (tb5 (List.mem_of_getElem? (i := 77) rfl)) rfl)) ⟨by decide +kernel, by decide +kernel, by decide +kernel⟩ hR, hC.2.1 (Cond.static yJ7_fill_d0a16) (gw_t (tb3 (List.mem_of_getElem? (i := 93) rfl)) rfl)⟩
abbrev rm_X2_weighted : Room := { frames := 3, cells := 0, slots := 0, locals := 67 }
def f_X2_weighted_6 (d1 : Nat) : Nat → Int32 → Int32 → Int64 → Int32 → Sta → Option (Int64 × Sta)
  | 0, _, _, _, _, _ => none
  | n + 1, v2, v3, v4, v6, σ => if gI σ 197 ≤ v6 then
      some (v4, σ)
    else
      if v6 < 0 ∨ 3 ≤ (v6.toNatClampNeg) then none else (
      bnd (f_X5_gainOf v2 v3 v6 σ) (fun r3 σ4 =>
      lt (v4 + (((gA σ (41 + 5 * d1 + 1) (v6.toNatClampNeg)).toInt64) * r3)) (fun x6 =>
      lt (v6 + 1) (fun x7 =>
      f_X2_weighted_6 d1 n v2 v3 x6 x7 σ4))))
set_option maxHeartbeats 4000000 in
set_option maxRecDepth 100000 in
theorem t_X2_weighted_6 {l : Launch} {D : va_G} {Y : CYs} {E : Nat → Nat} {p : Program} {e : Env} {s : State} {m : MethodId} {args : Array Value} {below : List Frame} {meth : Method} {c : Code} {d1 : Nat} (hd1 : d1 < 13) (hF : Fr p s m args meth c RX2 cX2_weighted 7 (some .long) D Y E LC) {o : Int64 × Sta} : ∀ (n : Nat) (v2 : Int32) (v3 : Int32) (v4 : Int64) (v6 : Int32) (σ : Sta) (H : Heap) (locs : List Loc) (ls : Array Slot), f_X2_weighted_6 d1 n v2 v3 v4 v6 σ = some o → va_P D vwCl (wd Y E σ 0 LC) H → va_S (AF E LC.length s.heap.size) s.heap H locs → lv_has ls 7 [(0, .ref (E 6)), (1, .ref (E (41 + 5 * d1))), (2, .int v2), (3, .int v3), (4, .long v4), (6, .int v6)] → WL p l e rm_X2_weighted s m args below meth c LC Y D E o H locs (F0 m 6 ls []) := by
  intro n
  induction n with
  | zero =>
    intro v2 v3 v4 v6 σ H locs ls h hP hS hl
    exact nomatch (show (none : Option (Int64 × Sta)) = some o from h)
  | succ n ih =>
    intro v2 v3 v4 v6 σ H locs ls h hP hS hl
    rw [f_X2_weighted_6] at h
    obtain ⟨hC, hb, hml, hr, hlk, hD, hSW⟩ := id hF
    have hx := hC.1
    refine lv_iload hx hb dX2_weighted_6 (lv_at hl 5 rfl) ?_
    refine lv_aload_n hx hb dX2_weighted_8 rfl (lv_at hl 0 rfl) ?_
    refine gf_X2_18 hC hb hP dX2_weighted_9 ?_
    refine gf_X2_37 hC hb hP dX2_weighted_12 ?_
    refine gf_X2_41 hC hb hP dX2_weighted_15 ?_
    refine lv_icmp_ge (tgt := 52) hx hb dX2_weighted_18 (by decide) (fun c1 => ?_) (fun c1 => ?_)
    · have h := of_t h c1
      refine lv_lload hx hb dX2_weighted_52 (lv_at hl 4 rfl) ?_
      exact x_lret hF hP hS h dX2_weighted_54
    · have h := of_f h c1
      refine lv_lload hx hb dX2_weighted_21 (lv_at hl 4 rfl) ?_
      refine lv_aload_n hx hb dX2_weighted_23 rfl (lv_at hl 1 rfl) ?_
      refine gf_X2_90 hC hb hP hd1 dX2_weighted_24 ?_
      refine lv_iload hx hb dX2_weighted_27 (lv_at hl 5 rfl) ?_
      obtain ⟨g2, h⟩ := of_gd h
      refine x_iald hC hb hP (lc_s1 hd1) g2 dX2_weighted_29 ?_
      refine lv_i2l (v := (gA σ (41 + 5 * d1 + 1) (v6.toNatClampNeg)).toInt64) hx hb dX2_weighted_30 rfl ?_
      refine lv_aload_n hx hb dX2_weighted_31 rfl (lv_at hl 0 rfl) ?_
      refine gf_X2_18 hC hb hP dX2_weighted_32 ?_
      refine lv_iload_n hx hb dX2_weighted_35 rfl (lv_at hl 2 rfl) ?_
      refine lv_iload_n hx hb dX2_weighted_36 rfl (lv_at hl 3 rfl) ?_
      refine lv_iload hx hb dX2_weighted_37 (lv_at hl 5 rfl) ?_
      obtain ⟨r3, σ4, g5, h⟩ := of_bnd h
      refine x_VL (As := [.int v2, .int v3, .int v6]) (rest := [.long ((gA σ (41 + 5 * d1 + 1) (v6.toNatClampNeg)).toInt64), .long v4]) hF hl hP hS (c_X5_gainOf g5) (cw_X2_93 hC rfl rfl ⟨Nat.le_of_ble_eq_true rfl, Nat.le_of_ble_eq_true rfl⟩) lc_5 rfl rfl rfl (Nat.le_of_ble_eq_true rfl) dX2_weighted_39 ⟨Nat.zero_le _, Nat.zero_le _⟩ (fun H locs hP hS => ?_)
      refine lv_lmul hx hb dX2_weighted_42 ?_
      refine lv_ladd hx hb dX2_weighted_43 ?_
      refine lv_topl (fun x6 ex6 => ?_)
      have h := of_lt h ex6
      refine lv_lstore (lv' := [(4, .long x6), (0, .ref (E 6)), (1, .ref (E (41 + 5 * d1))), (2, .int v2), (3, .int v3), (6, .int v6)]) hx hb dX2_weighted_44 hl (by decide) rfl (fun ls hl => ?_)
      obtain ⟨x7, ex7⟩ : ∃ y : Int32, y = v6 + 1 := ⟨_, rfl⟩
      have h := of_lt h ex7
      refine lv_iinc (v := x7) (lv' := [(6, .int x7), (4, .long x6), (0, .ref (E 6)), (1, .ref (E (41 + 5 * d1))), (2, .int v2), (3, .int v3)]) hx hb dX2_weighted_46 hl (k := 5) rfl (by rw [ex7]; rfl) (by decide) rfl (fun ls hl => ?_)
      refine lv_goto (tgt := 6) hx hb dX2_weighted_49 (by decide) ?_
      exact ih v2 v3 x6 x7 σ4 _ _ _ h hP hS (lv_sub hl [2, 3, 4, 5, 1, 0] rfl)

def f_X2_weighted (d1 : Nat) (a2 : Int32) (a3 : Int32) (σ : Sta) : Option (Int64 × Sta) :=
  f_X2_weighted_6 d1 FU a2 a3 0 0 σ
set_option maxHeartbeats 4000000 in
set_option maxRecDepth 100000 in
theorem c_X2_weighted {l : Launch} {D : va_G} {Y : CYs} {E : Nat → Nat} {d1 : Nat} {a2 : Int32} {a3 : Int32} (hd1 : d1 < 13) {σ : Sta} {o : Int64 × Sta} (h : f_X2_weighted d1 a2 a3 σ = some o) : ML l yX2_weighted (Cond.code yX2_weighted cX2_weighted 7 (some .long) :: gW) rm_X2_weighted LC Y D E [.ref (E 6), .ref (E (41 + 5 * d1)), .int a2, .int a3] σ o := by
  intro sz
  refine Met_of (Qc := fun sz => QL LC Y D E sz o) (by decide) (Nat.le_of_ble_eq_true rfl) (fun p e s m args below meth c hF hP ls hl => ?_) sz
  have hS : va_S (AF E LC.length s.heap.size) s.heap s.heap [] := va_S.rf
  have hl : lv_has ls 7 [(0, .ref (E 6)), (1, .ref (E (41 + 5 * d1))), (2, .int a2), (3, .int a3)] := hl
  show WL p l e rm_X2_weighted s m args below meth c LC Y D E o s.heap [] (F0 m 0 ls [])
  unfold f_X2_weighted at h
  obtain ⟨hC, hb, hml, hr, hlk, hD, hSW⟩ := id hF
  have hx := hC.1
  refine lv_lconst (v := 0) hx hb dX2_weighted_0 (by decide) ?_
  refine lv_lstore (lv' := [(4, .long 0), (0, .ref (E 6)), (1, .ref (E (41 + 5 * d1))), (2, .int a2), (3, .int a3)]) hx hb dX2_weighted_1 hl (by decide) rfl (fun ls hl => ?_)
  refine lv_iconst (v := 0) hx hb dX2_weighted_3 (by decide) ?_
  refine lv_istore (lv' := [(6, .int 0), (4, .long 0), (0, .ref (E 6)), (1, .ref (E (41 + 5 * d1))), (2, .int a2), (3, .int a3)]) hx hb dX2_weighted_4 hl (by decide) rfl (fun ls hl => ?_)
  exact t_X2_weighted_6  hd1 hF FU a2 a3 0 0 σ _ _ _ h hP hS (lv_sub hl [2, 3, 4, 5, 1, 0] rfl)

abbrev rm_X2_later : Room := { frames := 3, cells := 0, slots := 0, locals := 66 }
def f_X2_later_6 (q1 n1 : Nat) : Nat → Int32 → Int32 → Int32 → Int64 → Int32 → Sta → Option (Int64 × Sta)
  | 0, _, _, _, _, _, _ => none
  | n + 1, v2, v3, v4, v5, v7, σ => bnd (f_X5_branchesOf v3 v4 σ) (fun r1 σ2 =>
    if r1 ≤ v7 then
      some (v5 / 100, σ2)
    else
      bnd (f_X5_targetOf v3 v4 v7 σ2) (fun r5 σ6 =>
      bnd (f_X8_entry_ q1 n1 (v2 + r5) σ6) (fun r8 σ9 =>
      bnd (f_X5_chanceOf v3 v4 v7 σ9) (fun r11 σ12 =>
      lt (v5 + (r11.toInt64 * r8)) (fun x14 =>
      lt (v7 + 1) (fun x15 =>
      f_X2_later_6 q1 n1 n v2 v3 v4 x14 x15 σ12))))))
set_option maxHeartbeats 4000000 in
set_option maxRecDepth 100000 in
theorem t_X2_later_6 {l : Launch} {D : va_G} {Y : CYs} {E : Nat → Nat} {p : Program} {e : Env} {s : State} {m : MethodId} {args : Array Value} {below : List Frame} {meth : Method} {c : Code} {q1 n1 : Nat} {z1 : List (Nat × Nat)} (hq1 : LC[q1]? = some (2, n1, z1)) (hF : Fr p s m args meth c RX2 cX2_later 10 (some .long) D Y E LC) {o : Int64 × Sta} : ∀ (n : Nat) (v2 : Int32) (v3 : Int32) (v4 : Int32) (v5 : Int64) (v7 : Int32) (σ : Sta) (H : Heap) (locs : List Loc) (ls : Array Slot), f_X2_later_6 q1 n1 n v2 v3 v4 v5 v7 σ = some o → va_P D vwCl (wd Y E σ 0 LC) H → va_S (AF E LC.length s.heap.size) s.heap H locs → lv_has ls 10 [(0, .ref (E 6)), (1, .ref (E q1)), (2, .int v2), (3, .int v3), (4, .int v4), (5, .long v5), (7, .int v7)] → WL p l e rm_X2_later s m args below meth c LC Y D E o H locs (F0 m 6 ls []) := by
  intro n
  induction n with
  | zero =>
    intro v2 v3 v4 v5 v7 σ H locs ls h hP hS hl
    exact nomatch (show (none : Option (Int64 × Sta)) = some o from h)
  | succ n ih =>
    intro v2 v3 v4 v5 v7 σ H locs ls h hP hS hl
    rw [f_X2_later_6] at h
    obtain ⟨hC, hb, hml, hr, hlk, hD, hSW⟩ := id hF
    have hx := hC.1
    refine lv_iload hx hb dX2_later_6 (lv_at hl 6 rfl) ?_
    refine lv_aload_n hx hb dX2_later_8 rfl (lv_at hl 0 rfl) ?_
    refine gf_X2_18 hC hb hP dX2_later_9 ?_
    refine lv_iload_n hx hb dX2_later_12 rfl (lv_at hl 3 rfl) ?_
    refine lv_iload hx hb dX2_later_13 (lv_at hl 4 rfl) ?_
    obtain ⟨r1, σ2, g3, h⟩ := of_bnd h
    refine x_VI (As := [.int v3, .int v4]) (rest := [.int v7]) hF hl hP hS (c_X5_branchesOf g3) (cw_X2_119 hC rfl rfl ⟨Nat.le_of_ble_eq_true rfl, Nat.le_of_ble_eq_true rfl⟩) lc_5 rfl rfl rfl (Nat.le_of_ble_eq_true rfl) dX2_later_15 ⟨Nat.zero_le _, Nat.zero_le _⟩ (fun H locs hP hS => ?_)
    refine lv_icmp_ge (tgt := 68) hx hb dX2_later_18 (by decide) (fun c4 => ?_) (fun c4 => ?_)
    · have h := of_t h c4
      refine lv_lload hx hb dX2_later_68 (lv_at hl 5 rfl) ?_
      refine lv_ldc2 (v := 100) hx hb hC.2.2.1 (hC.2.1 (Cond.constantLong RX2 133 100) (gw_t (tb3 (List.mem_of_getElem? (i := 87) rfl)) rfl)) dX2_later_70 ?_
      refine lv_ldiv hx hb dX2_later_73 (by decide) ?_
      exact x_lret hF hP hS h dX2_later_74
    · have h := of_f h c4
      refine lv_aload_n hx hb dX2_later_21 rfl (lv_at hl 1 rfl) ?_
      refine lv_iload_n hx hb dX2_later_22 rfl (lv_at hl 2 rfl) ?_
      refine lv_aload_n hx hb dX2_later_23 rfl (lv_at hl 0 rfl) ?_
      refine gf_X2_18 hC hb hP dX2_later_24 ?_
      refine lv_iload_n hx hb dX2_later_27 rfl (lv_at hl 3 rfl) ?_
      refine lv_iload hx hb dX2_later_28 (lv_at hl 4 rfl) ?_
      refine lv_iload hx hb dX2_later_30 (lv_at hl 6 rfl) ?_
      obtain ⟨r5, σ6, g7, h⟩ := of_bnd h
      refine x_VI (As := [.int v3, .int v4, .int v7]) (rest := [.int v2, .ref (E q1)]) hF hl hP hS (c_X5_targetOf g7) (cw_X2_122 hC rfl rfl ⟨Nat.le_of_ble_eq_true rfl, Nat.le_of_ble_eq_true rfl⟩) lc_5 rfl rfl rfl (Nat.le_of_ble_eq_true rfl) dX2_later_32 ⟨Nat.zero_le _, Nat.zero_le _⟩ (fun H locs hP hS => ?_)
      refine lv_iadd hx hb dX2_later_35 ?_
      obtain ⟨r8, σ9, g10, h⟩ := of_bnd h
      refine x_SNL (As := [.ref (E q1), .int (v2 + r5)]) (rest := []) hF hl hP hS (c_X8_entry_ hq1 g10) (cw_X2_126 hC rfl rfl ⟨Nat.le_of_ble_eq_true rfl, Nat.le_of_ble_eq_true rfl⟩) rfl rfl (Nat.le_of_ble_eq_true rfl) dX2_later_36 ⟨Nat.zero_le _, Nat.zero_le _⟩ (fun H locs hP hS => ?_)
      refine lv_lstore (lv' := [(8, .long r8), (0, .ref (E 6)), (1, .ref (E q1)), (2, .int v2), (3, .int v3), (4, .int v4), (5, .long v5), (7, .int v7)]) hx hb dX2_later_39 hl (by decide) rfl (fun ls hl => ?_)
      refine lv_lload hx hb dX2_later_41 (lv_at hl 6 rfl) ?_
      refine lv_aload_n hx hb dX2_later_43 rfl (lv_at hl 1 rfl) ?_
      refine gf_X2_18 hC hb hP dX2_later_44 ?_
      refine lv_iload_n hx hb dX2_later_47 rfl (lv_at hl 4 rfl) ?_
      refine lv_iload hx hb dX2_later_48 (lv_at hl 5 rfl) ?_
      refine lv_iload hx hb dX2_later_50 (lv_at hl 7 rfl) ?_
      obtain ⟨r11, σ12, g13, h⟩ := of_bnd h
      refine x_VI (As := [.int v3, .int v4, .int v7]) (rest := [.long v5]) hF hl hP hS (c_X5_chanceOf g13) (cw_X2_130 hC rfl rfl ⟨Nat.le_of_ble_eq_true rfl, Nat.le_of_ble_eq_true rfl⟩) lc_5 rfl rfl rfl (Nat.le_of_ble_eq_true rfl) dX2_later_52 ⟨Nat.zero_le _, Nat.zero_le _⟩ (fun H locs hP hS => ?_)
      refine lv_i2l (v := r11.toInt64) hx hb dX2_later_55 rfl ?_
      refine lv_lload hx hb dX2_later_56 (lv_at hl 0 rfl) ?_
      refine lv_lmul hx hb dX2_later_58 ?_
      refine lv_ladd hx hb dX2_later_59 ?_
      refine lv_topl (fun x14 ex14 => ?_)
      have h := of_lt h ex14
      refine lv_lstore (lv' := [(5, .long x14), (8, .long r8), (0, .ref (E 6)), (1, .ref (E q1)), (2, .int v2), (3, .int v3), (4, .int v4), (7, .int v7)]) hx hb dX2_later_60 hl (by decide) rfl (fun ls hl => ?_)
      obtain ⟨x15, ex15⟩ : ∃ y : Int32, y = v7 + 1 := ⟨_, rfl⟩
      have h := of_lt h ex15
      refine lv_iinc (v := x15) (lv' := [(7, .int x15), (5, .long x14), (8, .long r8), (0, .ref (E 6)), (1, .ref (E q1)), (2, .int v2), (3, .int v3), (4, .int v4)]) hx hb dX2_later_62 hl (k := 7) rfl (by rw [ex15]; rfl) (by decide) rfl (fun ls hl => ?_)
      refine lv_goto (tgt := 6) hx hb dX2_later_65 (by decide) ?_
      exact ih v2 v3 v4 x14 x15 σ12 _ _ _ h hP hS (lv_sub hl [3, 4, 5, 6, 7, 1, 0] rfl)

def f_X2_later (q1 n1 : Nat) (a2 : Int32) (a3 : Int32) (a4 : Int32) (σ : Sta) : Option (Int64 × Sta) :=
  f_X2_later_6 q1 n1 FU a2 a3 a4 0 0 σ
set_option maxHeartbeats 4000000 in
set_option maxRecDepth 100000 in
theorem c_X2_later {l : Launch} {D : va_G} {Y : CYs} {E : Nat → Nat} {q1 n1 : Nat} {a2 : Int32} {a3 : Int32} {a4 : Int32} {z1 : List (Nat × Nat)} (hq1 : LC[q1]? = some (2, n1, z1)) {σ : Sta} {o : Int64 × Sta} (h : f_X2_later q1 n1 a2 a3 a4 σ = some o) : ML l yX2_later (Cond.code yX2_later cX2_later 10 (some .long) :: gW) rm_X2_later LC Y D E [.ref (E 6), .ref (E q1), .int a2, .int a3, .int a4] σ o := by
  intro sz
  refine Met_of (Qc := fun sz => QL LC Y D E sz o) (by decide) (Nat.le_of_ble_eq_true rfl) (fun p e s m args below meth c hF hP ls hl => ?_) sz
  have hS : va_S (AF E LC.length s.heap.size) s.heap s.heap [] := va_S.rf
  have hl : lv_has ls 10 [(0, .ref (E 6)), (1, .ref (E q1)), (2, .int a2), (3, .int a3), (4, .int a4)] := hl
  show WL p l e rm_X2_later s m args below meth c LC Y D E o s.heap [] (F0 m 0 ls [])
  unfold f_X2_later at h
  obtain ⟨hC, hb, hml, hr, hlk, hD, hSW⟩ := id hF
  have hx := hC.1
  refine lv_lconst (v := 0) hx hb dX2_later_0 (by decide) ?_
  refine lv_lstore (lv' := [(5, .long 0), (0, .ref (E 6)), (1, .ref (E q1)), (2, .int a2), (3, .int a3), (4, .int a4)]) hx hb dX2_later_1 hl (by decide) rfl (fun ls hl => ?_)
  refine lv_iconst (v := 0) hx hb dX2_later_3 (by decide) ?_
  refine lv_istore (lv' := [(7, .int 0), (5, .long 0), (0, .ref (E 6)), (1, .ref (E q1)), (2, .int a2), (3, .int a3), (4, .int a4)]) hx hb dX2_later_4 hl (by decide) rfl (fun ls hl => ?_)
  exact t_X2_later_6  hq1 hF FU a2 a3 a4 0 0 σ _ _ _ h hP hS (lv_sub hl [2, 3, 4, 5, 6, 1, 0] rfl)

abbrev rm_X2_choose : Room := { frames := 4, cells := 0, slots := 0, locals := 95 }
def f_X2_choose_76 (d1 : Nat) (k9 : Int32 → Int32 → Int32 → Int64 → Int32 → Sta → Option (Unit × Sta)) (v2 : Int32) (v3 : Int32) (v4 : Int32) (v5 : Int64) (v7 : Int32) (σ : Sta) : Option (Unit × Sta) :=
  lt (v7 + 1) (fun x1 =>
  k9 v2 v3 v4 v5 x1 σ)
set_option maxHeartbeats 4000000 in
set_option maxRecDepth 100000 in
theorem t_X2_choose_76 {l : Launch} {D : va_G} {Y : CYs} {E : Nat → Nat} {p : Program} {e : Env} {s : State} {m : MethodId} {args : Array Value} {below : List Frame} {meth : Method} {c : Code} {d1 : Nat} (hd1 : d1 < 13) (hF : Fr p s m args meth c RX2 cX2_choose 10 none D Y E LC) {o : Unit × Sta} (k9 : Int32 → Int32 → Int32 → Int64 → Int32 → Sta → Option (Unit × Sta)) (hk9 : ∀ (v2 : Int32) (v3 : Int32) (v4 : Int32) (v5 : Int64) (v7 : Int32) (σ : Sta) (H : Heap) (locs : List Loc) (ls : Array Slot), k9 v2 v3 v4 v5 v7 σ = some o → va_P D vwCl (wd Y E σ 0 LC) H → va_S (AF E LC.length s.heap.size) s.heap H locs → lv_has ls 10 [(0, .ref (E 6)), (1, .ref (E (41 + 5 * d1))), (2, .int v2), (3, .int v3), (4, .int v4), (5, .long v5), (7, .int v7)] → WV p l e rm_X2_choose s m args below meth c LC Y D E o H locs (F0 m 9 ls [])) : ∀ (v2 : Int32) (v3 : Int32) (v4 : Int32) (v5 : Int64) (v7 : Int32) (σ : Sta) (H : Heap) (locs : List Loc) (ls : Array Slot), f_X2_choose_76 d1 k9 v2 v3 v4 v5 v7 σ = some o → va_P D vwCl (wd Y E σ 0 LC) H → va_S (AF E LC.length s.heap.size) s.heap H locs → lv_has ls 10 [(0, .ref (E 6)), (1, .ref (E (41 + 5 * d1))), (2, .int v2), (3, .int v3), (4, .int v4), (5, .long v5), (7, .int v7)] → WV p l e rm_X2_choose s m args below meth c LC Y D E o H locs (F0 m 76 ls []) := by
  intro v2 v3 v4 v5 v7 σ H locs ls h hP hS hl
  unfold f_X2_choose_76 at h
  obtain ⟨hC, hb, hml, hr, hlk, hD, hSW⟩ := id hF
  have hx := hC.1
  obtain ⟨x1, ex1⟩ : ∃ y : Int32, y = v7 + 1 := ⟨_, rfl⟩
  have h := of_lt h ex1
  refine lv_iinc (v := x1) (lv' := [(7, .int x1), (0, .ref (E 6)), (1, .ref (E (41 + 5 * d1))), (2, .int v2), (3, .int v3), (4, .int v4), (5, .long v5)]) hx hb dX2_choose_76 hl (k := 6) rfl (by rw [ex1]; rfl) (by decide) rfl (fun ls hl => ?_)
  refine lv_goto (tgt := 9) hx hb dX2_choose_79 (by decide) ?_
  exact hk9 v2 v3 v4 v5 x1 σ _ _ _ h hP hS (lv_sub hl [1, 2, 3, 4, 5, 6, 0] rfl)

def f_X2_choose_68 (d1 : Nat) (k9 : Int32 → Int32 → Int32 → Int64 → Int32 → Sta → Option (Unit × Sta)) (v2 : Int32) (v3 : Int32) (v7 : Int32) (v8 : Int64) (σ : Sta) : Option (Unit × Sta) :=
  f_X2_choose_76 d1 k9 v2 v3 v7 v8 v7 σ
set_option maxHeartbeats 4000000 in
set_option maxRecDepth 100000 in
theorem t_X2_choose_68 {l : Launch} {D : va_G} {Y : CYs} {E : Nat → Nat} {p : Program} {e : Env} {s : State} {m : MethodId} {args : Array Value} {below : List Frame} {meth : Method} {c : Code} {d1 : Nat} (hd1 : d1 < 13) (hF : Fr p s m args meth c RX2 cX2_choose 10 none D Y E LC) {o : Unit × Sta} (k9 : Int32 → Int32 → Int32 → Int64 → Int32 → Sta → Option (Unit × Sta)) (hk9 : ∀ (v2 : Int32) (v3 : Int32) (v4 : Int32) (v5 : Int64) (v7 : Int32) (σ : Sta) (H : Heap) (locs : List Loc) (ls : Array Slot), k9 v2 v3 v4 v5 v7 σ = some o → va_P D vwCl (wd Y E σ 0 LC) H → va_S (AF E LC.length s.heap.size) s.heap H locs → lv_has ls 10 [(0, .ref (E 6)), (1, .ref (E (41 + 5 * d1))), (2, .int v2), (3, .int v3), (4, .int v4), (5, .long v5), (7, .int v7)] → WV p l e rm_X2_choose s m args below meth c LC Y D E o H locs (F0 m 9 ls [])) : ∀ (v2 : Int32) (v3 : Int32) (v7 : Int32) (v8 : Int64) (σ : Sta) (H : Heap) (locs : List Loc) (ls : Array Slot), f_X2_choose_68 d1 k9 v2 v3 v7 v8 σ = some o → va_P D vwCl (wd Y E σ 0 LC) H → va_S (AF E LC.length s.heap.size) s.heap H locs → lv_has ls 10 [(0, .ref (E 6)), (1, .ref (E (41 + 5 * d1))), (2, .int v2), (3, .int v3), (7, .int v7), (8, .long v8)] → WV p l e rm_X2_choose s m args below meth c LC Y D E o H locs (F0 m 68 ls []) := by
  intro v2 v3 v7 v8 σ H locs ls h hP hS hl
  unfold f_X2_choose_68 at h
  obtain ⟨hC, hb, hml, hr, hlk, hD, hSW⟩ := id hF
  have hx := hC.1
  refine lv_iload hx hb dX2_choose_68 (lv_at hl 4 rfl) ?_
  refine lv_istore (lv' := [(4, .int v7), (0, .ref (E 6)), (1, .ref (E (41 + 5 * d1))), (2, .int v2), (3, .int v3), (7, .int v7), (8, .long v8)]) hx hb dX2_choose_70 hl (by decide) rfl (fun ls hl => ?_)
  refine lv_lload hx hb dX2_choose_72 (lv_at hl 6 rfl) ?_
  refine lv_lstore (lv' := [(5, .long v8), (4, .int v7), (0, .ref (E 6)), (1, .ref (E (41 + 5 * d1))), (2, .int v2), (3, .int v3), (7, .int v7), (8, .long v8)]) hx hb dX2_choose_74 hl (by decide) rfl (fun ls hl => ?_)
  exact t_X2_choose_76  hd1 hF k9 hk9 v2 v3 v7 v8 v7 σ _ _ _ h hP hS (lv_sub hl [2, 3, 4, 5, 1, 0, 6] rfl)

def f_X2_choose_9 (d1 : Nat) : Nat → Int32 → Int32 → Int32 → Int64 → Int32 → Sta → Option (Unit × Sta)
  | 0, _, _, _, _, _, _ => none
  | n + 1, v2, v3, v4, v5, v7, σ => if v2 < 0 ∨ 100 ≤ (v2.toNatClampNeg) then none else (
    if gA σ 33 (v2.toNatClampNeg) ≤ v7 then
      if ((v3 - 1) * 100) + v2 < 0 ∨ 3000 ≤ ((((v3 - 1) * 100) + v2).toNatClampNeg) then none else (
      lt (sA σ (41 + 5 * d1 + 2) (upd (gA σ (41 + 5 * d1 + 2)) ((((v3 - 1) * 100) + v2).toNatClampNeg) v4)) (fun σ4 =>
      if (v3 * 100) + v2 < 0 ∨ 3100 ≤ (((v3 * 100) + v2).toNatClampNeg) then none else (
      lt (sJ σ4 (41 + 5 * d1 + 3) (vp_updL (gJ σ4 (41 + 5 * d1 + 3)) (((v3 * 100) + v2).toNatClampNeg) v5)) (fun σ6 =>
      some ((), σ6)))))
    else
      bnd (f_X2_weighted d1 v2 v7 σ) (fun r7 σ8 =>
      bnd (f_X2_later (41 + 5 * d1 + 3) 3100 ((v3 - 1) * 100) v2 v7 σ8) (fun r10 σ11 =>
      lt ((10000 * r7) + r10) (fun x13 =>
      if v4 < 0 then
        f_X2_choose_68 d1 (f_X2_choose_9 d1 n) v2 v3 v7 x13 σ11
      else
        if lg_cmp x13 v5 ≤ 0 then
          f_X2_choose_76 d1 (f_X2_choose_9 d1 n) v2 v3 v4 v5 v7 σ11
        else
          f_X2_choose_68 d1 (f_X2_choose_9 d1 n) v2 v3 v7 x13 σ11))))
set_option maxHeartbeats 4000000 in
set_option maxRecDepth 100000 in
theorem t_X2_choose_9 {l : Launch} {D : va_G} {Y : CYs} {E : Nat → Nat} {p : Program} {e : Env} {s : State} {m : MethodId} {args : Array Value} {below : List Frame} {meth : Method} {c : Code} {d1 : Nat} (hd1 : d1 < 13) (hF : Fr p s m args meth c RX2 cX2_choose 10 none D Y E LC) {o : Unit × Sta} : ∀ (n : Nat) (v2 : Int32) (v3 : Int32) (v4 : Int32) (v5 : Int64) (v7 : Int32) (σ : Sta) (H : Heap) (locs : List Loc) (ls : Array Slot), f_X2_choose_9 d1 n v2 v3 v4 v5 v7 σ = some o → va_P D vwCl (wd Y E σ 0 LC) H → va_S (AF E LC.length s.heap.size) s.heap H locs → lv_has ls 10 [(0, .ref (E 6)), (1, .ref (E (41 + 5 * d1))), (2, .int v2), (3, .int v3), (4, .int v4), (5, .long v5), (7, .int v7)] → WV p l e rm_X2_choose s m args below meth c LC Y D E o H locs (F0 m 9 ls []) := by
  intro n
  induction n with
  | zero =>
    intro v2 v3 v4 v5 v7 σ H locs ls h hP hS hl
    exact nomatch (show (none : Option (Unit × Sta)) = some o from h)
  | succ n ih =>
    intro v2 v3 v4 v5 v7 σ H locs ls h hP hS hl
    rw [f_X2_choose_9] at h
    obtain ⟨hC, hb, hml, hr, hlk, hD, hSW⟩ := id hF
    have hx := hC.1
    refine lv_iload hx hb dX2_choose_9 (lv_at hl 6 rfl) ?_
    refine lv_aload_n hx hb dX2_choose_11 rfl (lv_at hl 0 rfl) ?_
    refine gf_X2_18 hC hb hP dX2_choose_12 ?_
    refine gf_X2_70 hC hb hP dX2_choose_15 ?_
    refine lv_iload_n hx hb dX2_choose_18 rfl (lv_at hl 2 rfl) ?_
    obtain ⟨g1, h⟩ := of_gd h
    refine x_iald hC hb hP lc_33 g1 dX2_choose_19 ?_
    refine lv_icmp_ge (tgt := 82) hx hb dX2_choose_20 (by decide) (fun c2 => ?_) (fun c2 => ?_)
    · have h := of_t h c2
      refine lv_aload_n hx hb dX2_choose_82 rfl (lv_at hl 1 rfl) ?_
      refine gf_X2_87 hC hb hP hd1 dX2_choose_83 ?_
      refine lv_iload_n hx hb dX2_choose_86 rfl (lv_at hl 3 rfl) ?_
      refine lv_iconst (v := 1) hx hb dX2_choose_87 (by decide) ?_
      refine lv_isub hx hb dX2_choose_88 ?_
      refine lv_bipush (v := 100) hx hb dX2_choose_89 (by decide) ?_
      refine lv_imul hx hb dX2_choose_91 ?_
      refine lv_iload_n hx hb dX2_choose_92 rfl (lv_at hl 2 rfl) ?_
      refine lv_iadd hx hb dX2_choose_93 ?_
      refine lv_iload hx hb dX2_choose_94 (lv_at hl 4 rfl) ?_
      obtain ⟨g3, h⟩ := of_gd h
      refine x_iast lokC hC hb hP hD hS (lc_s2 hd1) g3 dX2_choose_96 (fun H locs σ4 eσ4 hP hS => ?_)
      have h := of_lt h eσ4
      refine lv_aload_n hx hb dX2_choose_97 rfl (lv_at hl 1 rfl) ?_
      refine gf_X2_80 hC hb hP hd1 dX2_choose_98 ?_
      refine lv_iload_n hx hb dX2_choose_101 rfl (lv_at hl 3 rfl) ?_
      refine lv_bipush (v := 100) hx hb dX2_choose_102 (by decide) ?_
      refine lv_imul hx hb dX2_choose_104 ?_
      refine lv_iload_n hx hb dX2_choose_105 rfl (lv_at hl 2 rfl) ?_
      refine lv_iadd hx hb dX2_choose_106 ?_
      refine lv_lload hx hb dX2_choose_107 (lv_at hl 5 rfl) ?_
      obtain ⟨g5, h⟩ := of_gd h
      refine x_last lokC hC hb hP hD hS (lc_s3 hd1) g5 dX2_choose_109 (fun H locs σ6 eσ6 hP hS => ?_)
      have h := of_lt h eσ6
      exact x_vret hF hP hS h dX2_choose_110
    · have h := of_f h c2
      refine lv_ldc2 (v := 10000) hx hb hC.2.2.1 (hC.2.1 (Cond.constantLong RX2 74 10000) (gw_t (tb3 (List.mem_of_getElem? (i := 73) rfl)) rfl)) dX2_choose_23 ?_
      refine lv_aload_n hx hb dX2_choose_26 rfl (lv_at hl 0 rfl) ?_
      refine lv_aload_n hx hb dX2_choose_27 rfl (lv_at hl 1 rfl) ?_
      refine lv_iload_n hx hb dX2_choose_28 rfl (lv_at hl 2 rfl) ?_
      refine lv_iload hx hb dX2_choose_29 (lv_at hl 6 rfl) ?_
      obtain ⟨r7, σ8, g9, h⟩ := of_bnd h
      refine x_VL (As := [.ref (E (41 + 5 * d1)), .int v2, .int v7]) (rest := [.long 10000]) hF hl hP hS (c_X2_weighted hd1 g9) (cw_X2_76 hC rfl rfl ⟨Nat.le_of_ble_eq_true rfl, Nat.le_of_ble_eq_true rfl⟩) lc_6 rfl rfl rfl (Nat.le_of_ble_eq_true rfl) dX2_choose_31 ⟨Nat.zero_le _, Nat.zero_le _⟩ (fun H locs hP hS => ?_)
      refine lv_lmul hx hb dX2_choose_34 ?_
      refine lv_aload_n hx hb dX2_choose_35 rfl (lv_at hl 0 rfl) ?_
      refine lv_aload_n hx hb dX2_choose_36 rfl (lv_at hl 1 rfl) ?_
      refine gf_X2_80 hC hb hP hd1 dX2_choose_37 ?_
      refine lv_iload_n hx hb dX2_choose_40 rfl (lv_at hl 3 rfl) ?_
      refine lv_iconst (v := 1) hx hb dX2_choose_41 (by decide) ?_
      refine lv_isub hx hb dX2_choose_42 ?_
      refine lv_bipush (v := 100) hx hb dX2_choose_43 (by decide) ?_
      refine lv_imul hx hb dX2_choose_45 ?_
      refine lv_iload_n hx hb dX2_choose_46 rfl (lv_at hl 2 rfl) ?_
      refine lv_iload hx hb dX2_choose_47 (lv_at hl 6 rfl) ?_
      obtain ⟨r10, σ11, g12, h⟩ := of_bnd h
      refine x_VL (As := [.ref (E (41 + 5 * d1 + 3)), .int ((v3 - 1) * 100), .int v2, .int v7]) (rest := [.long (10000 * r7)]) hF hl hP hS (c_X2_later (lc_s3 hd1) g12) (cw_X2_83 hC rfl rfl ⟨Nat.le_of_ble_eq_true rfl, Nat.le_of_ble_eq_true rfl⟩) lc_6 rfl rfl rfl (Nat.le_of_ble_eq_true rfl) dX2_choose_49 ⟨Nat.zero_le _, Nat.zero_le _⟩ (fun H locs hP hS => ?_)
      refine lv_ladd hx hb dX2_choose_52 ?_
      refine lv_topl (fun x13 ex13 => ?_)
      have h := of_lt h ex13
      refine lv_lstore (lv' := [(8, .long x13), (0, .ref (E 6)), (1, .ref (E (41 + 5 * d1))), (2, .int v2), (3, .int v3), (4, .int v4), (5, .long v5), (7, .int v7)]) hx hb dX2_choose_53 hl (by decide) rfl (fun ls hl => ?_)
      refine lv_iload hx hb dX2_choose_55 (lv_at hl 5 rfl) ?_
      refine lv_if_lt (tgt := 68) hx hb dX2_choose_57 (by decide) (fun c14 => ?_) (fun c14 => ?_)
      · have h := of_t h c14
        exact t_X2_choose_68  hd1 hF (f_X2_choose_9 d1 n) ih v2 v3 v7 x13 σ11 _ _ _ h hP hS (lv_sub hl [1, 2, 3, 4, 7, 0] rfl)
      · have h := of_f h c14
        refine lv_lload hx hb dX2_choose_60 (lv_at hl 0 rfl) ?_
        refine lv_lload hx hb dX2_choose_62 (lv_at hl 6 rfl) ?_
        refine W.lcmp hx hb dX2_choose_64 ?_
        refine lv_if_le (tgt := 76) hx hb dX2_choose_65 (by decide) (fun c15 => ?_) (fun c15 => ?_)
        · have h := of_t h c15
          exact t_X2_choose_76  hd1 hF (f_X2_choose_9 d1 n) ih v2 v3 v4 v5 v7 σ11 _ _ _ h hP hS (lv_sub hl [1, 2, 3, 4, 5, 6, 7] rfl)
        · have h := of_f h c15
          exact t_X2_choose_68  hd1 hF (f_X2_choose_9 d1 n) ih v2 v3 v7 x13 σ11 _ _ _ h hP hS (lv_sub hl [1, 2, 3, 4, 7, 0] rfl)

def f_X2_choose (d1 : Nat) (a2 : Int32) (a3 : Int32) (σ : Sta) : Option (Unit × Sta) :=
  lt (-1) (fun x1 =>
  f_X2_choose_9 d1 FU a2 a3 x1 0 0 σ)
set_option maxHeartbeats 4000000 in
set_option maxRecDepth 100000 in
theorem c_X2_choose {l : Launch} {D : va_G} {Y : CYs} {E : Nat → Nat} {d1 : Nat} {a2 : Int32} {a3 : Int32} (hd1 : d1 < 13) {σ : Sta} {o : Unit × Sta} (h : f_X2_choose d1 a2 a3 σ = some o) : MV l yX2_choose (Cond.code yX2_choose cX2_choose 10 none :: gW) rm_X2_choose LC Y D E [.ref (E 6), .ref (E (41 + 5 * d1)), .int a2, .int a3] σ o := by
  intro sz
  refine Met_of (Qc := fun sz => QV LC Y D E sz o) (by decide) (Nat.le_of_ble_eq_true rfl) (fun p e s m args below meth c hF hP ls hl => ?_) sz
  have hS : va_S (AF E LC.length s.heap.size) s.heap s.heap [] := va_S.rf
  have hl : lv_has ls 10 [(0, .ref (E 6)), (1, .ref (E (41 + 5 * d1))), (2, .int a2), (3, .int a3)] := hl
  show WV p l e rm_X2_choose s m args below meth c LC Y D E o s.heap [] (F0 m 0 ls [])
  unfold f_X2_choose at h
  obtain ⟨hC, hb, hml, hr, hlk, hD, hSW⟩ := id hF
  have hx := hC.1
  refine lv_iconst (v := -1) hx hb dX2_choose_0 (by decide) ?_
  refine lv_topi (fun x1 ex1 => ?_)
  have h := of_lt h ex1
  refine lv_istore (lv' := [(4, .int x1), (0, .ref (E 6)), (1, .ref (E (41 + 5 * d1))), (2, .int a2), (3, .int a3)]) hx hb dX2_choose_1 hl (by decide) rfl (fun ls hl => ?_)
  refine lv_lconst (v := 0) hx hb dX2_choose_3 (by decide) ?_
  refine lv_lstore (lv' := [(5, .long 0), (4, .int x1), (0, .ref (E 6)), (1, .ref (E (41 + 5 * d1))), (2, .int a2), (3, .int a3)]) hx hb dX2_choose_4 hl (by decide) rfl (fun ls hl => ?_)
  refine lv_iconst (v := 0) hx hb dX2_choose_6 (by decide) ?_
  refine lv_istore (lv' := [(7, .int 0), (5, .long 0), (4, .int x1), (0, .ref (E 6)), (1, .ref (E (41 + 5 * d1))), (2, .int a2), (3, .int a3)]) hx hb dX2_choose_7 hl (by decide) rfl (fun ls hl => ?_)
  exact t_X2_choose_9  hd1 hF FU a2 a3 x1 0 0 σ _ _ _ h hP hS (lv_sub hl [3, 4, 5, 6, 2, 1, 0] rfl)

abbrev rm_X2_stepOn : Room := { frames := 1, cells := 0, slots := 0, locals := 41 }
def f_X2_stepOn (σ : Sta) : Option (Unit × Sta) :=
  if (0 : Int32) < 0 ∨ (0 : Int32) < 0 ∨ (100 : Int32) < 0 ∨ 100 < ((0 : Int32).toNatClampNeg) + ((100 : Int32).toNatClampNeg) ∨ 100 < ((0 : Int32).toNatClampNeg) + ((100 : Int32).toNatClampNeg) then none else (
  lt (sJ σ 38 (va_cpy (gJ σ 39) (gJ σ 38) ((0 : Int32).toNatClampNeg) ((0 : Int32).toNatClampNeg) ((100 : Int32).toNatClampNeg))) (fun σ2 =>
  some ((), σ2)))
set_option maxHeartbeats 4000000 in
set_option maxRecDepth 100000 in
theorem c_X2_stepOn {l : Launch} {D : va_G} {Y : CYs} {E : Nat → Nat} {σ : Sta} {o : Unit × Sta} (h : f_X2_stepOn σ = some o) : MV l yX2_stepOn (Cond.code yX2_stepOn cX2_stepOn 1 none :: gW) rm_X2_stepOn LC Y D E [.ref (E 6)] σ o := by
  intro sz
  refine Met_of (Qc := fun sz => QV LC Y D E sz o) (by decide) (Nat.le_of_ble_eq_true rfl) (fun p e s m args below meth c hF hP ls hl => ?_) sz
  have hS : va_S (AF E LC.length s.heap.size) s.heap s.heap [] := va_S.rf
  have hl : lv_has ls 1 [(0, .ref (E 6))] := hl
  show WV p l e rm_X2_stepOn s m args below meth c LC Y D E o s.heap [] (F0 m 0 ls [])
  unfold f_X2_stepOn at h
  obtain ⟨hC, hb, hml, hr, hlk, hD, hSW⟩ := id hF
  have hx := hC.1
  refine lv_aload_n hx hb dX2_stepOn_0 rfl (lv_at hl 0 rfl) ?_
  refine gf_X2_15 hC hb hP dX2_stepOn_1 ?_
  refine lv_iconst (v := 0) hx hb dX2_stepOn_4 (by decide) ?_
  refine lv_aload_n hx hb dX2_stepOn_5 rfl (lv_at hl 0 rfl) ?_
  refine gf_X2_9 hC hb hP dX2_stepOn_6 ?_
  refine lv_iconst (v := 0) hx hb dX2_stepOn_9 (by decide) ?_
  refine lv_bipush (v := 100) hx hb dX2_stepOn_10 (by decide) ?_
  obtain ⟨g1, h⟩ := of_gd h
  refine x_copyJ lokC hF hl hP hS (gw_t (tb3 (List.mem_of_getElem? (i := 104) rfl)) rfl) (gw_t (tb3 (List.mem_of_getElem? (i := 106) rfl)) rfl) (gw_t (tb3 (List.mem_of_getElem? (i := 105) rfl)) rfl) (gw_t (tb1 (List.mem_of_getElem? (i := 18) rfl)) rfl) lc_39 lc_38 g1 (Nat.le_of_ble_eq_true rfl) (Nat.le_of_ble_eq_true rfl) dX2_stepOn_12 (fun H locs σ2 eσ2 hP hS => ?_)
  have h := of_lt h eσ2
  exact x_vret hF hP hS h dX2_stepOn_15

abbrev rm_X2_gainOfAll : Room := { frames := 4, cells := 0, slots := 0, locals := 95 }
def f_X2_gainOfAll_87 (d1 : Nat) (k10 : Int32 → Int32 → Sta → Option (Int64 × Sta)) (k21 : Int32 → Int32 → Int32 → Sta → Option (Int64 × Sta)) (v2 : Int32) (v3 : Int32) (v4 : Int32) (s0 : Int64) (s1 : Int32) (σ : Sta) : Option (Int64 × Sta) :=
  if s1 < 0 ∨ 100 ≤ (s1.toNatClampNeg) then none else (
  lt (sJ σ 39 (vp_updL (gJ σ 39) (s1.toNatClampNeg) s0)) (fun σ2 =>
  lt (v4 + 1) (fun x3 =>
  k21 v2 v3 x3 σ2)))
set_option maxHeartbeats 4000000 in
set_option maxRecDepth 100000 in
theorem t_X2_gainOfAll_87 {l : Launch} {D : va_G} {Y : CYs} {E : Nat → Nat} {p : Program} {e : Env} {s : State} {m : MethodId} {args : Array Value} {below : List Frame} {meth : Method} {c : Code} {d1 : Nat} (hd1 : d1 < 13) (hF : Fr p s m args meth c RX2 cX2_gainOfAll 6 (some .long) D Y E LC) {o : Int64 × Sta} (k10 : Int32 → Int32 → Sta → Option (Int64 × Sta)) (k21 : Int32 → Int32 → Int32 → Sta → Option (Int64 × Sta)) (hk10 : ∀ (v2 : Int32) (v3 : Int32) (σ : Sta) (H : Heap) (locs : List Loc) (ls : Array Slot), k10 v2 v3 σ = some o → va_P D vwCl (wd Y E σ 0 LC) H → va_S (AF E LC.length s.heap.size) s.heap H locs → lv_has ls 6 [(0, .ref (E 6)), (1, .ref (E (41 + 5 * d1))), (2, .int v2), (3, .int v3)] → WL p l e rm_X2_gainOfAll s m args below meth c LC Y D E o H locs (F0 m 10 ls [])) (hk21 : ∀ (v2 : Int32) (v3 : Int32) (v4 : Int32) (σ : Sta) (H : Heap) (locs : List Loc) (ls : Array Slot), k21 v2 v3 v4 σ = some o → va_P D vwCl (wd Y E σ 0 LC) H → va_S (AF E LC.length s.heap.size) s.heap H locs → lv_has ls 6 [(0, .ref (E 6)), (1, .ref (E (41 + 5 * d1))), (2, .int v2), (3, .int v3), (4, .int v4)] → WL p l e rm_X2_gainOfAll s m args below meth c LC Y D E o H locs (F0 m 21 ls [])) : ∀ (v2 : Int32) (v3 : Int32) (v4 : Int32) (s0 : Int64) (s1 : Int32) (σ : Sta) (H : Heap) (locs : List Loc) (ls : Array Slot), f_X2_gainOfAll_87 d1 k10 k21 v2 v3 v4 s0 s1 σ = some o → va_P D vwCl (wd Y E σ 0 LC) H → va_S (AF E LC.length s.heap.size) s.heap H locs → lv_has ls 6 [(0, .ref (E 6)), (1, .ref (E (41 + 5 * d1))), (2, .int v2), (3, .int v3), (4, .int v4)] → WL p l e rm_X2_gainOfAll s m args below meth c LC Y D E o H locs (F0 m 87 ls [.long s0, .int s1, .ref (E 39)]) := by
  intro v2 v3 v4 s0 s1 σ H locs ls h hP hS hl
  unfold f_X2_gainOfAll_87 at h
  obtain ⟨hC, hb, hml, hr, hlk, hD, hSW⟩ := id hF
  have hx := hC.1
  obtain ⟨g1, h⟩ := of_gd h
  refine x_last lokC hC hb hP hD hS lc_39 g1 dX2_gainOfAll_87 (fun H locs σ2 eσ2 hP hS => ?_)
  have h := of_lt h eσ2
  obtain ⟨x3, ex3⟩ : ∃ y : Int32, y = v4 + 1 := ⟨_, rfl⟩
  have h := of_lt h ex3
  refine lv_iinc (v := x3) (lv' := [(4, .int x3), (0, .ref (E 6)), (1, .ref (E (41 + 5 * d1))), (2, .int v2), (3, .int v3)]) hx hb dX2_gainOfAll_88 hl (k := 4) rfl (by rw [ex3]; rfl) (by decide) rfl (fun ls hl => ?_)
  refine lv_goto (tgt := 21) hx hb dX2_gainOfAll_91 (by decide) ?_
  exact hk21 v2 v3 x3 σ2 _ _ _ h hP hS (lv_sub hl [1, 2, 3, 4, 0] rfl)

def f_X2_gainOfAll_21 (d1 : Nat) (k10 : Int32 → Int32 → Sta → Option (Int64 × Sta)) : Nat → Int32 → Int32 → Int32 → Sta → Option (Int64 × Sta)
  | 0, _, _, _, _ => none
  | n + 1, v2, v3, v4, σ => if gI σ 322 ≤ v4 then
      bnd (f_X2_stepOn σ) (fun _ σ3 =>
      lt (v3 + 1) (fun x5 =>
      k10 v2 x5 σ3))
    else
      bnd (f_X6_takenIn d1 v4 v3 σ) (fun r6 σ7 =>
      if 0 ≤ r6 then
        bnd (f_X5_gainOf v4 r6 v2 σ7) (fun r10 σ11 =>
        bnd (f_X2_later 38 100 0 v4 r6 σ11) (fun r13 σ14 =>
        f_X2_gainOfAll_87 d1 k10 (f_X2_gainOfAll_21 d1 k10 n) v2 v3 v4 ((10000 * r10) + r13) v4 σ14))
      else
        f_X2_gainOfAll_87 d1 k10 (f_X2_gainOfAll_21 d1 k10 n) v2 v3 v4 0 v4 σ7)
set_option maxHeartbeats 4000000 in
set_option maxRecDepth 100000 in
theorem t_X2_gainOfAll_21 {l : Launch} {D : va_G} {Y : CYs} {E : Nat → Nat} {p : Program} {e : Env} {s : State} {m : MethodId} {args : Array Value} {below : List Frame} {meth : Method} {c : Code} {d1 : Nat} (hd1 : d1 < 13) (hF : Fr p s m args meth c RX2 cX2_gainOfAll 6 (some .long) D Y E LC) {o : Int64 × Sta} (k10 : Int32 → Int32 → Sta → Option (Int64 × Sta)) (hk10 : ∀ (v2 : Int32) (v3 : Int32) (σ : Sta) (H : Heap) (locs : List Loc) (ls : Array Slot), k10 v2 v3 σ = some o → va_P D vwCl (wd Y E σ 0 LC) H → va_S (AF E LC.length s.heap.size) s.heap H locs → lv_has ls 6 [(0, .ref (E 6)), (1, .ref (E (41 + 5 * d1))), (2, .int v2), (3, .int v3)] → WL p l e rm_X2_gainOfAll s m args below meth c LC Y D E o H locs (F0 m 10 ls [])) : ∀ (n : Nat) (v2 : Int32) (v3 : Int32) (v4 : Int32) (σ : Sta) (H : Heap) (locs : List Loc) (ls : Array Slot), f_X2_gainOfAll_21 d1 k10 n v2 v3 v4 σ = some o → va_P D vwCl (wd Y E σ 0 LC) H → va_S (AF E LC.length s.heap.size) s.heap H locs → lv_has ls 6 [(0, .ref (E 6)), (1, .ref (E (41 + 5 * d1))), (2, .int v2), (3, .int v3), (4, .int v4)] → WL p l e rm_X2_gainOfAll s m args below meth c LC Y D E o H locs (F0 m 21 ls []) := by
  intro n
  induction n with
  | zero =>
    intro v2 v3 v4 σ H locs ls h hP hS hl
    exact nomatch (show (none : Option (Int64 × Sta)) = some o from h)
  | succ n ih =>
    intro v2 v3 v4 σ H locs ls h hP hS hl
    rw [f_X2_gainOfAll_21] at h
    obtain ⟨hC, hb, hml, hr, hlk, hD, hSW⟩ := id hF
    have hx := hC.1
    refine lv_iload hx hb dX2_gainOfAll_21 (lv_at hl 4 rfl) ?_
    refine lv_aload_n hx hb dX2_gainOfAll_23 rfl (lv_at hl 0 rfl) ?_
    refine gf_X2_18 hC hb hP dX2_gainOfAll_24 ?_
    refine gf_X2_28 hC hb hP dX2_gainOfAll_27 ?_
    refine lv_icmp_ge (tgt := 94) hx hb dX2_gainOfAll_30 (by decide) (fun c1 => ?_) (fun c1 => ?_)
    · have h := of_t h c1
      refine lv_aload_n hx hb dX2_gainOfAll_94 rfl (lv_at hl 0 rfl) ?_
      obtain ⟨r2, σ3, g4, h⟩ := of_bnd h
      refine x_VV (As := []) (rest := []) hF hl hP hS (c_X2_stepOn g4) (cw_X2_67 hC rfl rfl ⟨Nat.le_of_ble_eq_true rfl, Nat.le_of_ble_eq_true rfl⟩) lc_6 rfl rfl rfl (Nat.le_of_ble_eq_true rfl) dX2_gainOfAll_95 ⟨Nat.zero_le _, Nat.zero_le _⟩ (fun H locs hP hS => ?_)
      obtain ⟨x5, ex5⟩ : ∃ y : Int32, y = v3 + 1 := ⟨_, rfl⟩
      have h := of_lt h ex5
      refine lv_iinc (v := x5) (lv' := [(3, .int x5), (0, .ref (E 6)), (1, .ref (E (41 + 5 * d1))), (2, .int v2), (4, .int v4)]) hx hb dX2_gainOfAll_98 hl (k := 3) rfl (by rw [ex5]; rfl) (by decide) rfl (fun ls hl => ?_)
      refine lv_goto (tgt := 10) hx hb dX2_gainOfAll_101 (by decide) ?_
      exact hk10 v2 x5 σ3 _ _ _ h hP hS (lv_sub hl [1, 2, 3, 0] rfl)
    · have h := of_f h c1
      refine lv_aload_n hx hb dX2_gainOfAll_33 rfl (lv_at hl 1 rfl) ?_
      refine lv_iload hx hb dX2_gainOfAll_34 (lv_at hl 4 rfl) ?_
      refine lv_iload_n hx hb dX2_gainOfAll_36 rfl (lv_at hl 3 rfl) ?_
      obtain ⟨r6, σ7, g8, h⟩ := of_bnd h
      refine x_VI (As := [.int v4, .int v3]) (rest := []) hF hl hP hS (c_X6_takenIn hd1 g8) (cw_X2_103 hC rfl rfl ⟨Nat.le_of_ble_eq_true rfl, Nat.le_of_ble_eq_true rfl⟩) (lc_s0 hd1) rfl rfl rfl (Nat.le_of_ble_eq_true rfl) dX2_gainOfAll_37 ⟨Nat.zero_le _, Nat.zero_le _⟩ (fun H locs hP hS => ?_)
      refine lv_istore (lv' := [(5, .int r6), (0, .ref (E 6)), (1, .ref (E (41 + 5 * d1))), (2, .int v2), (3, .int v3), (4, .int v4)]) hx hb dX2_gainOfAll_40 hl (by decide) rfl (fun ls hl => ?_)
      refine lv_aload_n hx hb dX2_gainOfAll_42 rfl (lv_at hl 1 rfl) ?_
      refine gf_X2_15 hC hb hP dX2_gainOfAll_43 ?_
      refine lv_iload hx hb dX2_gainOfAll_46 (lv_at hl 5 rfl) ?_
      refine lv_iload hx hb dX2_gainOfAll_48 (lv_at hl 0 rfl) ?_
      refine lv_if_ge (tgt := 57) hx hb dX2_gainOfAll_50 (by decide) (fun c9 => ?_) (fun c9 => ?_)
      · have h := of_t h c9
        refine lv_ldc2 (v := 10000) hx hb hC.2.2.1 (hC.2.1 (Cond.constantLong RX2 74 10000) (gw_t (tb3 (List.mem_of_getElem? (i := 73) rfl)) rfl)) dX2_gainOfAll_57 ?_
        refine lv_aload_n hx hb dX2_gainOfAll_60 rfl (lv_at hl 1 rfl) ?_
        refine gf_X2_18 hC hb hP dX2_gainOfAll_61 ?_
        refine lv_iload hx hb dX2_gainOfAll_64 (lv_at hl 5 rfl) ?_
        refine lv_iload hx hb dX2_gainOfAll_66 (lv_at hl 0 rfl) ?_
        refine lv_iload_n hx hb dX2_gainOfAll_68 rfl (lv_at hl 3 rfl) ?_
        obtain ⟨r10, σ11, g12, h⟩ := of_bnd h
        refine x_VL (As := [.int v4, .int r6, .int v2]) (rest := [.long 10000, .int v4, .ref (E 39)]) hF hl hP hS (c_X5_gainOf g12) (cw_X2_93 hC rfl rfl ⟨Nat.le_of_ble_eq_true rfl, Nat.le_of_ble_eq_true rfl⟩) lc_5 rfl rfl rfl (Nat.le_of_ble_eq_true rfl) dX2_gainOfAll_69 ⟨Nat.zero_le _, Nat.zero_le _⟩ (fun H locs hP hS => ?_)
        refine lv_lmul hx hb dX2_gainOfAll_72 ?_
        refine lv_aload_n hx hb dX2_gainOfAll_73 rfl (lv_at hl 1 rfl) ?_
        refine lv_aload_n hx hb dX2_gainOfAll_74 rfl (lv_at hl 1 rfl) ?_
        refine gf_X2_9 hC hb hP dX2_gainOfAll_75 ?_
        refine lv_iconst (v := 0) hx hb dX2_gainOfAll_78 (by decide) ?_
        refine lv_iload hx hb dX2_gainOfAll_79 (lv_at hl 5 rfl) ?_
        refine lv_iload hx hb dX2_gainOfAll_81 (lv_at hl 0 rfl) ?_
        obtain ⟨r13, σ14, g15, h⟩ := of_bnd h
        refine x_VL (As := [.ref (E 38), .int 0, .int v4, .int r6]) (rest := [.long (10000 * r10), .int v4, .ref (E 39)]) hF hl hP hS (c_X2_later lc_38 g15) (cw_X2_83 hC rfl rfl ⟨Nat.le_of_ble_eq_true rfl, Nat.le_of_ble_eq_true rfl⟩) lc_6 rfl rfl rfl (Nat.le_of_ble_eq_true rfl) dX2_gainOfAll_83 ⟨Nat.zero_le _, Nat.zero_le _⟩ (fun H locs hP hS => ?_)
        refine lv_ladd hx hb dX2_gainOfAll_86 ?_
        exact t_X2_gainOfAll_87  hd1 hF k10 (f_X2_gainOfAll_21 d1 k10 n) hk10 ih v2 v3 v4 ((10000 * r10) + r13) v4 σ14 _ _ _ h hP hS (lv_sub hl [1, 2, 3, 4, 5] rfl)
      · have h := of_f h c9
        refine lv_lconst (v := 0) hx hb dX2_gainOfAll_53 (by decide) ?_
        refine lv_goto (tgt := 87) hx hb dX2_gainOfAll_54 (by decide) ?_
        exact t_X2_gainOfAll_87  hd1 hF k10 (f_X2_gainOfAll_21 d1 k10 n) hk10 ih v2 v3 v4 0 v4 σ7 _ _ _ h hP hS (lv_sub hl [1, 2, 3, 4, 5] rfl)

def f_X2_gainOfAll_10 (d1 : Nat) : Nat → Int32 → Int32 → Sta → Option (Int64 × Sta)
  | 0, _, _, _ => none
  | n + 1, v2, v3, σ => if gI σ (64 * (41 + 5 * d1) + 1) < v3 then
      if (0 : Int32) < 0 ∨ 100 ≤ ((0 : Int32).toNatClampNeg) then none else (
      some (gJ σ 38 ((0 : Int32).toNatClampNeg), σ))
    else
      f_X2_gainOfAll_21 d1 (f_X2_gainOfAll_10 d1 n) FU v2 v3 0 σ
set_option maxHeartbeats 4000000 in
set_option maxRecDepth 100000 in
theorem t_X2_gainOfAll_10 {l : Launch} {D : va_G} {Y : CYs} {E : Nat → Nat} {p : Program} {e : Env} {s : State} {m : MethodId} {args : Array Value} {below : List Frame} {meth : Method} {c : Code} {d1 : Nat} (hd1 : d1 < 13) (hF : Fr p s m args meth c RX2 cX2_gainOfAll 6 (some .long) D Y E LC) {o : Int64 × Sta} : ∀ (n : Nat) (v2 : Int32) (v3 : Int32) (σ : Sta) (H : Heap) (locs : List Loc) (ls : Array Slot), f_X2_gainOfAll_10 d1 n v2 v3 σ = some o → va_P D vwCl (wd Y E σ 0 LC) H → va_S (AF E LC.length s.heap.size) s.heap H locs → lv_has ls 6 [(0, .ref (E 6)), (1, .ref (E (41 + 5 * d1))), (2, .int v2), (3, .int v3)] → WL p l e rm_X2_gainOfAll s m args below meth c LC Y D E o H locs (F0 m 10 ls []) := by
  intro n
  induction n with
  | zero =>
    intro v2 v3 σ H locs ls h hP hS hl
    exact nomatch (show (none : Option (Int64 × Sta)) = some o from h)
  | succ n ih =>
    intro v2 v3 σ H locs ls h hP hS hl
    rw [f_X2_gainOfAll_10] at h
    obtain ⟨hC, hb, hml, hr, hlk, hD, hSW⟩ := id hF
    have hx := hC.1
    refine lv_iload_n hx hb dX2_gainOfAll_10 rfl (lv_at hl 3 rfl) ?_
    refine lv_aload_n hx hb dX2_gainOfAll_11 rfl (lv_at hl 1 rfl) ?_
    refine gf_X2_22 hC hb hP hd1 dX2_gainOfAll_12 ?_
    refine lv_icmp_gt (tgt := 104) hx hb dX2_gainOfAll_15 (by decide) (fun c1 => ?_) (fun c1 => ?_)
    · have h := of_t h c1
      refine lv_aload_n hx hb dX2_gainOfAll_104 rfl (lv_at hl 0 rfl) ?_
      refine gf_X2_9 hC hb hP dX2_gainOfAll_105 ?_
      refine lv_iconst (v := 0) hx hb dX2_gainOfAll_108 (by decide) ?_
      obtain ⟨g2, h⟩ := of_gd h
      refine x_lald hC hb hP lc_38 g2 dX2_gainOfAll_109 ?_
      exact x_lret hF hP hS h dX2_gainOfAll_110
    · have h := of_f h c1
      refine lv_iconst (v := 0) hx hb dX2_gainOfAll_18 (by decide) ?_
      refine lv_istore (lv' := [(4, .int 0), (0, .ref (E 6)), (1, .ref (E (41 + 5 * d1))), (2, .int v2), (3, .int v3)]) hx hb dX2_gainOfAll_19 hl (by decide) rfl (fun ls hl => ?_)
      exact t_X2_gainOfAll_21  hd1 hF (f_X2_gainOfAll_10 d1 n) ih FU v2 v3 0 σ _ _ _ h hP hS (lv_sub hl [1, 2, 3, 4, 0] rfl)

def f_X2_gainOfAll (d1 : Nat) (a2 : Int32) (σ : Sta) : Option (Int64 × Sta) :=
  bnd (f_J7_fill_d0a16 38 100 0 σ) (fun _ σ2 =>
  f_X2_gainOfAll_10 d1 FU a2 1 σ2)
set_option maxHeartbeats 4000000 in
set_option maxRecDepth 100000 in
theorem c_X2_gainOfAll {l : Launch} {D : va_G} {Y : CYs} {E : Nat → Nat} {d1 : Nat} {a2 : Int32} (hd1 : d1 < 13) {σ : Sta} {o : Int64 × Sta} (h : f_X2_gainOfAll d1 a2 σ = some o) : ML l yX2_gainOfAll (Cond.code yX2_gainOfAll cX2_gainOfAll 6 (some .long) :: gW) rm_X2_gainOfAll LC Y D E [.ref (E 6), .ref (E (41 + 5 * d1)), .int a2] σ o := by
  intro sz
  refine Met_of (Qc := fun sz => QL LC Y D E sz o) (by decide) (Nat.le_of_ble_eq_true rfl) (fun p e s m args below meth c hF hP ls hl => ?_) sz
  have hS : va_S (AF E LC.length s.heap.size) s.heap s.heap [] := va_S.rf
  have hl : lv_has ls 6 [(0, .ref (E 6)), (1, .ref (E (41 + 5 * d1))), (2, .int a2)] := hl
  show WL p l e rm_X2_gainOfAll s m args below meth c LC Y D E o s.heap [] (F0 m 0 ls [])
  unfold f_X2_gainOfAll at h
  obtain ⟨hC, hb, hml, hr, hlk, hD, hSW⟩ := id hF
  have hx := hC.1
  refine lv_aload_n hx hb dX2_gainOfAll_0 rfl (lv_at hl 0 rfl) ?_
  refine gf_X2_9 hC hb hP dX2_gainOfAll_1 ?_
  refine lv_lconst (v := 0) hx hb dX2_gainOfAll_4 (by decide) ?_
  obtain ⟨r1, σ2, g3, h⟩ := of_bnd h
  refine x_SV (As := [.ref (E 38), .long 0]) (rest := []) hF hl hP hS (c_J7_fill_d0a16 lokC lc_38 g3) (cw_X2_97 hC rfl rfl ⟨Nat.le_of_ble_eq_true rfl, Nat.le_of_ble_eq_true rfl⟩) rfl rfl (Nat.le_of_ble_eq_true rfl) dX2_gainOfAll_5 ⟨Nat.zero_le _, Nat.zero_le _⟩ (fun H locs hP hS => ?_)
  refine lv_iconst (v := 1) hx hb dX2_gainOfAll_8 (by decide) ?_
  refine lv_istore_n (lv' := [(3, .int 1), (0, .ref (E 6)), (1, .ref (E (41 + 5 * d1))), (2, .int a2)]) hx hb dX2_gainOfAll_9 rfl hl (by decide) rfl (fun ls hl => ?_)
  exact t_X2_gainOfAll_10  hd1 hF FU a2 1 σ2 _ _ _ h hP hS (lv_sub hl [1, 2, 3, 0] rfl)

abbrev rm_X2_startChances : Room := { frames := 2, cells := 0, slots := 0, locals := 42 }
def f_X2_startChances_36 (k2 : Int32 → Sta → Option (Unit × Sta)) (v1 : Int32) (s0 : Int64) (s1 : Int32) (σ : Sta) : Option (Unit × Sta) :=
  if s1 < 0 ∨ 100 ≤ (s1.toNatClampNeg) then none else (
  lt (sJ σ 38 (vp_updL (gJ σ 38) (s1.toNatClampNeg) s0)) (fun σ2 =>
  lt (v1 + 1) (fun x3 =>
  k2 x3 σ2)))
set_option maxHeartbeats 4000000 in
set_option maxRecDepth 100000 in
theorem t_X2_startChances_36 {l : Launch} {D : va_G} {Y : CYs} {E : Nat → Nat} {p : Program} {e : Env} {s : State} {m : MethodId} {args : Array Value} {below : List Frame} {meth : Method} {c : Code} (hF : Fr p s m args meth c RX2 cX2_startChances 2 none D Y E LC) {o : Unit × Sta} (k2 : Int32 → Sta → Option (Unit × Sta)) (hk2 : ∀ (v1 : Int32) (σ : Sta) (H : Heap) (locs : List Loc) (ls : Array Slot), k2 v1 σ = some o → va_P D vwCl (wd Y E σ 0 LC) H → va_S (AF E LC.length s.heap.size) s.heap H locs → lv_has ls 2 [(0, .ref (E 6)), (1, .int v1)] → WV p l e rm_X2_startChances s m args below meth c LC Y D E o H locs (F0 m 2 ls [])) : ∀ (v1 : Int32) (s0 : Int64) (s1 : Int32) (σ : Sta) (H : Heap) (locs : List Loc) (ls : Array Slot), f_X2_startChances_36 k2 v1 s0 s1 σ = some o → va_P D vwCl (wd Y E σ 0 LC) H → va_S (AF E LC.length s.heap.size) s.heap H locs → lv_has ls 2 [(0, .ref (E 6)), (1, .int v1)] → WV p l e rm_X2_startChances s m args below meth c LC Y D E o H locs (F0 m 36 ls [.long s0, .int s1, .ref (E 38)]) := by
  intro v1 s0 s1 σ H locs ls h hP hS hl
  unfold f_X2_startChances_36 at h
  obtain ⟨hC, hb, hml, hr, hlk, hD, hSW⟩ := id hF
  have hx := hC.1
  obtain ⟨g1, h⟩ := of_gd h
  refine x_last lokC hC hb hP hD hS lc_38 g1 dX2_startChances_36 (fun H locs σ2 eσ2 hP hS => ?_)
  have h := of_lt h eσ2
  obtain ⟨x3, ex3⟩ : ∃ y : Int32, y = v1 + 1 := ⟨_, rfl⟩
  have h := of_lt h ex3
  refine lv_iinc (v := x3) (lv' := [(1, .int x3), (0, .ref (E 6))]) hx hb dX2_startChances_37 hl (k := 1) rfl (by rw [ex3]; rfl) (by decide) rfl (fun ls hl => ?_)
  refine lv_goto (tgt := 2) hx hb dX2_startChances_40 (by decide) ?_
  exact hk2 x3 σ2 _ _ _ h hP hS (lv_sub hl [1, 0] rfl)

def f_X2_startChances_2 : Nat → Int32 → Sta → Option (Unit × Sta)
  | 0, _, _ => none
  | n + 1, v1, σ => if gI σ 322 ≤ v1 then
      some ((), σ)
    else
      bnd (f_X5_isGoal v1 σ) (fun r2 σ3 =>
      if r2 = 0 then
        f_X2_startChances_36 (f_X2_startChances_2 n) v1 0 v1 σ3
      else
        f_X2_startChances_36 (f_X2_startChances_2 n) v1 1000000 v1 σ3)
set_option maxHeartbeats 4000000 in
set_option maxRecDepth 100000 in
theorem t_X2_startChances_2 {l : Launch} {D : va_G} {Y : CYs} {E : Nat → Nat} {p : Program} {e : Env} {s : State} {m : MethodId} {args : Array Value} {below : List Frame} {meth : Method} {c : Code} (hF : Fr p s m args meth c RX2 cX2_startChances 2 none D Y E LC) {o : Unit × Sta} : ∀ (n : Nat) (v1 : Int32) (σ : Sta) (H : Heap) (locs : List Loc) (ls : Array Slot), f_X2_startChances_2 n v1 σ = some o → va_P D vwCl (wd Y E σ 0 LC) H → va_S (AF E LC.length s.heap.size) s.heap H locs → lv_has ls 2 [(0, .ref (E 6)), (1, .int v1)] → WV p l e rm_X2_startChances s m args below meth c LC Y D E o H locs (F0 m 2 ls []) := by
  intro n
  induction n with
  | zero =>
    intro v1 σ H locs ls h hP hS hl
    exact nomatch (show (none : Option (Unit × Sta)) = some o from h)
  | succ n ih =>
    intro v1 σ H locs ls h hP hS hl
    rw [f_X2_startChances_2] at h
    obtain ⟨hC, hb, hml, hr, hlk, hD, hSW⟩ := id hF
    have hx := hC.1
    refine lv_iload_n hx hb dX2_startChances_2 rfl (lv_at hl 1 rfl) ?_
    refine lv_aload_n hx hb dX2_startChances_3 rfl (lv_at hl 0 rfl) ?_
    refine gf_X2_18 hC hb hP dX2_startChances_4 ?_
    refine gf_X2_28 hC hb hP dX2_startChances_7 ?_
    refine lv_icmp_ge (tgt := 43) hx hb dX2_startChances_10 (by decide) (fun c1 => ?_) (fun c1 => ?_)
    · have h := of_t h c1
      exact x_vret hF hP hS h dX2_startChances_43
    · have h := of_f h c1
      refine lv_aload_n hx hb dX2_startChances_13 rfl (lv_at hl 0 rfl) ?_
      refine gf_X2_9 hC hb hP dX2_startChances_14 ?_
      refine lv_iload_n hx hb dX2_startChances_17 rfl (lv_at hl 1 rfl) ?_
      refine lv_aload_n hx hb dX2_startChances_18 rfl (lv_at hl 0 rfl) ?_
      refine gf_X2_18 hC hb hP dX2_startChances_19 ?_
      refine lv_iload_n hx hb dX2_startChances_22 rfl (lv_at hl 1 rfl) ?_
      obtain ⟨r2, σ3, g4, h⟩ := of_bnd h
      refine x_VI (As := [.int v1]) (rest := [.int v1, .ref (E 38)]) hF hl hP hS (c_X5_isGoal g4) (cw_X2_107 hC rfl rfl ⟨Nat.le_of_ble_eq_true rfl, Nat.le_of_ble_eq_true rfl⟩) lc_5 rfl rfl rfl (Nat.le_of_ble_eq_true rfl) dX2_startChances_23 ⟨Nat.zero_le _, Nat.zero_le _⟩ (fun H locs hP hS => ?_)
      refine lv_if_eq (tgt := 35) hx hb dX2_startChances_26 (by decide) (fun c5 => ?_) (fun c5 => ?_)
      · have h := of_t h c5
        refine lv_lconst (v := 0) hx hb dX2_startChances_35 (by decide) ?_
        exact t_X2_startChances_36  hF (f_X2_startChances_2 n) ih v1 0 v1 σ3 _ _ _ h hP hS (lv_sub hl [0, 1] rfl)
      · have h := of_f h c5
        refine lv_ldc2 (v := 1000000) hx hb hC.2.2.1 (hC.2.1 (Cond.constantLong RX2 111 1000000) (gw_t (tb3 (List.mem_of_getElem? (i := 119) rfl)) rfl)) dX2_startChances_29 ?_
        refine lv_goto (tgt := 36) hx hb dX2_startChances_32 (by decide) ?_
        exact t_X2_startChances_36  hF (f_X2_startChances_2 n) ih v1 1000000 v1 σ3 _ _ _ h hP hS (lv_sub hl [0, 1] rfl)

def f_X2_startChances (σ : Sta) : Option (Unit × Sta) :=
  f_X2_startChances_2 FU 0 σ
set_option maxHeartbeats 4000000 in
set_option maxRecDepth 100000 in
theorem c_X2_startChances {l : Launch} {D : va_G} {Y : CYs} {E : Nat → Nat} {σ : Sta} {o : Unit × Sta} (h : f_X2_startChances σ = some o) : MV l yX2_startChances (Cond.code yX2_startChances cX2_startChances 2 none :: gW) rm_X2_startChances LC Y D E [.ref (E 6)] σ o := by
  intro sz
  refine Met_of (Qc := fun sz => QV LC Y D E sz o) (by decide) (Nat.le_of_ble_eq_true rfl) (fun p e s m args below meth c hF hP ls hl => ?_) sz
  have hS : va_S (AF E LC.length s.heap.size) s.heap s.heap [] := va_S.rf
  have hl : lv_has ls 2 [(0, .ref (E 6))] := hl
  show WV p l e rm_X2_startChances s m args below meth c LC Y D E o s.heap [] (F0 m 0 ls [])
  unfold f_X2_startChances at h
  obtain ⟨hC, hb, hml, hr, hlk, hD, hSW⟩ := id hF
  have hx := hC.1
  refine lv_iconst (v := 0) hx hb dX2_startChances_0 (by decide) ?_
  refine lv_istore_n (lv' := [(1, .int 0), (0, .ref (E 6))]) hx hb dX2_startChances_1 rfl hl (by decide) rfl (fun ls hl => ?_)
  exact t_X2_startChances_2  hF FU 0 σ _ _ _ h hP hS (lv_sub hl [1, 0] rfl)

abbrev rm_X2_chanceOfAll : Room := { frames := 4, cells := 0, slots := 0, locals := 95 }
def f_X2_chanceOfAll_66 (d1 : Nat) (k6 : Int32 → Sta → Option (Int32 × Sta)) (k16 : Int32 → Int32 → Sta → Option (Int32 × Sta)) (v2 : Int32) (v3 : Int32) (s0 : Int64) (s1 : Int32) (σ : Sta) : Option (Int32 × Sta) :=
  if s1 < 0 ∨ 100 ≤ (s1.toNatClampNeg) then none else (
  lt (sJ σ 39 (vp_updL (gJ σ 39) (s1.toNatClampNeg) s0)) (fun σ2 =>
  lt (v3 + 1) (fun x3 =>
  k16 v2 x3 σ2)))
set_option maxHeartbeats 4000000 in
set_option maxRecDepth 100000 in
theorem t_X2_chanceOfAll_66 {l : Launch} {D : va_G} {Y : CYs} {E : Nat → Nat} {p : Program} {e : Env} {s : State} {m : MethodId} {args : Array Value} {below : List Frame} {meth : Method} {c : Code} {d1 : Nat} (hd1 : d1 < 13) (hF : Fr p s m args meth c RX2 cX2_chanceOfAll 5 (some .int) D Y E LC) {o : Int32 × Sta} (k6 : Int32 → Sta → Option (Int32 × Sta)) (k16 : Int32 → Int32 → Sta → Option (Int32 × Sta)) (hk6 : ∀ (v2 : Int32) (σ : Sta) (H : Heap) (locs : List Loc) (ls : Array Slot), k6 v2 σ = some o → va_P D vwCl (wd Y E σ 0 LC) H → va_S (AF E LC.length s.heap.size) s.heap H locs → lv_has ls 5 [(0, .ref (E 6)), (1, .ref (E (41 + 5 * d1))), (2, .int v2)] → WI p l e rm_X2_chanceOfAll s m args below meth c LC Y D E o H locs (F0 m 6 ls [])) (hk16 : ∀ (v2 : Int32) (v3 : Int32) (σ : Sta) (H : Heap) (locs : List Loc) (ls : Array Slot), k16 v2 v3 σ = some o → va_P D vwCl (wd Y E σ 0 LC) H → va_S (AF E LC.length s.heap.size) s.heap H locs → lv_has ls 5 [(0, .ref (E 6)), (1, .ref (E (41 + 5 * d1))), (2, .int v2), (3, .int v3)] → WI p l e rm_X2_chanceOfAll s m args below meth c LC Y D E o H locs (F0 m 16 ls [])) : ∀ (v2 : Int32) (v3 : Int32) (s0 : Int64) (s1 : Int32) (σ : Sta) (H : Heap) (locs : List Loc) (ls : Array Slot), f_X2_chanceOfAll_66 d1 k6 k16 v2 v3 s0 s1 σ = some o → va_P D vwCl (wd Y E σ 0 LC) H → va_S (AF E LC.length s.heap.size) s.heap H locs → lv_has ls 5 [(0, .ref (E 6)), (1, .ref (E (41 + 5 * d1))), (2, .int v2), (3, .int v3)] → WI p l e rm_X2_chanceOfAll s m args below meth c LC Y D E o H locs (F0 m 66 ls [.long s0, .int s1, .ref (E 39)]) := by
  intro v2 v3 s0 s1 σ H locs ls h hP hS hl
  unfold f_X2_chanceOfAll_66 at h
  obtain ⟨hC, hb, hml, hr, hlk, hD, hSW⟩ := id hF
  have hx := hC.1
  obtain ⟨g1, h⟩ := of_gd h
  refine x_last lokC hC hb hP hD hS lc_39 g1 dX2_chanceOfAll_66 (fun H locs σ2 eσ2 hP hS => ?_)
  have h := of_lt h eσ2
  obtain ⟨x3, ex3⟩ : ∃ y : Int32, y = v3 + 1 := ⟨_, rfl⟩
  have h := of_lt h ex3
  refine lv_iinc (v := x3) (lv' := [(3, .int x3), (0, .ref (E 6)), (1, .ref (E (41 + 5 * d1))), (2, .int v2)]) hx hb dX2_chanceOfAll_67 hl (k := 3) rfl (by rw [ex3]; rfl) (by decide) rfl (fun ls hl => ?_)
  refine lv_goto (tgt := 16) hx hb dX2_chanceOfAll_70 (by decide) ?_
  exact hk16 v2 x3 σ2 _ _ _ h hP hS (lv_sub hl [1, 2, 3, 0] rfl)

def f_X2_chanceOfAll_16 (d1 : Nat) (k6 : Int32 → Sta → Option (Int32 × Sta)) : Nat → Int32 → Int32 → Sta → Option (Int32 × Sta)
  | 0, _, _, _ => none
  | n + 1, v2, v3, σ => if gI σ 322 ≤ v3 then
      bnd (f_X2_stepOn σ) (fun _ σ3 =>
      lt (v2 + 1) (fun x5 =>
      k6 x5 σ3))
    else
      bnd (f_X6_takenIn d1 v3 v2 σ) (fun r6 σ7 =>
      if 0 ≤ r6 then
        bnd (f_X2_later 38 100 0 v3 r6 σ7) (fun r10 σ11 =>
        f_X2_chanceOfAll_66 d1 k6 (f_X2_chanceOfAll_16 d1 k6 n) v2 v3 r10 v3 σ11)
      else
        if v3 < 0 ∨ 100 ≤ (v3.toNatClampNeg) then none else (
        f_X2_chanceOfAll_66 d1 k6 (f_X2_chanceOfAll_16 d1 k6 n) v2 v3 (gJ σ7 38 (v3.toNatClampNeg)) v3 σ7))
set_option maxHeartbeats 4000000 in
set_option maxRecDepth 100000 in
theorem t_X2_chanceOfAll_16 {l : Launch} {D : va_G} {Y : CYs} {E : Nat → Nat} {p : Program} {e : Env} {s : State} {m : MethodId} {args : Array Value} {below : List Frame} {meth : Method} {c : Code} {d1 : Nat} (hd1 : d1 < 13) (hF : Fr p s m args meth c RX2 cX2_chanceOfAll 5 (some .int) D Y E LC) {o : Int32 × Sta} (k6 : Int32 → Sta → Option (Int32 × Sta)) (hk6 : ∀ (v2 : Int32) (σ : Sta) (H : Heap) (locs : List Loc) (ls : Array Slot), k6 v2 σ = some o → va_P D vwCl (wd Y E σ 0 LC) H → va_S (AF E LC.length s.heap.size) s.heap H locs → lv_has ls 5 [(0, .ref (E 6)), (1, .ref (E (41 + 5 * d1))), (2, .int v2)] → WI p l e rm_X2_chanceOfAll s m args below meth c LC Y D E o H locs (F0 m 6 ls [])) : ∀ (n : Nat) (v2 : Int32) (v3 : Int32) (σ : Sta) (H : Heap) (locs : List Loc) (ls : Array Slot), f_X2_chanceOfAll_16 d1 k6 n v2 v3 σ = some o → va_P D vwCl (wd Y E σ 0 LC) H → va_S (AF E LC.length s.heap.size) s.heap H locs → lv_has ls 5 [(0, .ref (E 6)), (1, .ref (E (41 + 5 * d1))), (2, .int v2), (3, .int v3)] → WI p l e rm_X2_chanceOfAll s m args below meth c LC Y D E o H locs (F0 m 16 ls []) := by
  intro n
  induction n with
  | zero =>
    intro v2 v3 σ H locs ls h hP hS hl
    exact nomatch (show (none : Option (Int32 × Sta)) = some o from h)
  | succ n ih =>
    intro v2 v3 σ H locs ls h hP hS hl
    rw [f_X2_chanceOfAll_16] at h
    obtain ⟨hC, hb, hml, hr, hlk, hD, hSW⟩ := id hF
    have hx := hC.1
    refine lv_iload_n hx hb dX2_chanceOfAll_16 rfl (lv_at hl 3 rfl) ?_
    refine lv_aload_n hx hb dX2_chanceOfAll_17 rfl (lv_at hl 0 rfl) ?_
    refine gf_X2_18 hC hb hP dX2_chanceOfAll_18 ?_
    refine gf_X2_28 hC hb hP dX2_chanceOfAll_21 ?_
    refine lv_icmp_ge (tgt := 73) hx hb dX2_chanceOfAll_24 (by decide) (fun c1 => ?_) (fun c1 => ?_)
    · have h := of_t h c1
      refine lv_aload_n hx hb dX2_chanceOfAll_73 rfl (lv_at hl 0 rfl) ?_
      obtain ⟨r2, σ3, g4, h⟩ := of_bnd h
      refine x_VV (As := []) (rest := []) hF hl hP hS (c_X2_stepOn g4) (cw_X2_67 hC rfl rfl ⟨Nat.le_of_ble_eq_true rfl, Nat.le_of_ble_eq_true rfl⟩) lc_6 rfl rfl rfl (Nat.le_of_ble_eq_true rfl) dX2_chanceOfAll_74 ⟨Nat.zero_le _, Nat.zero_le _⟩ (fun H locs hP hS => ?_)
      obtain ⟨x5, ex5⟩ : ∃ y : Int32, y = v2 + 1 := ⟨_, rfl⟩
      have h := of_lt h ex5
      refine lv_iinc (v := x5) (lv' := [(2, .int x5), (0, .ref (E 6)), (1, .ref (E (41 + 5 * d1))), (3, .int v3)]) hx hb dX2_chanceOfAll_77 hl (k := 2) rfl (by rw [ex5]; rfl) (by decide) rfl (fun ls hl => ?_)
      refine lv_goto (tgt := 6) hx hb dX2_chanceOfAll_80 (by decide) ?_
      exact hk6 x5 σ3 _ _ _ h hP hS (lv_sub hl [1, 2, 0] rfl)
    · have h := of_f h c1
      refine lv_aload_n hx hb dX2_chanceOfAll_27 rfl (lv_at hl 1 rfl) ?_
      refine lv_iload_n hx hb dX2_chanceOfAll_28 rfl (lv_at hl 3 rfl) ?_
      refine lv_iload_n hx hb dX2_chanceOfAll_29 rfl (lv_at hl 2 rfl) ?_
      obtain ⟨r6, σ7, g8, h⟩ := of_bnd h
      refine x_VI (As := [.int v3, .int v2]) (rest := []) hF hl hP hS (c_X6_takenIn hd1 g8) (cw_X2_103 hC rfl rfl ⟨Nat.le_of_ble_eq_true rfl, Nat.le_of_ble_eq_true rfl⟩) (lc_s0 hd1) rfl rfl rfl (Nat.le_of_ble_eq_true rfl) dX2_chanceOfAll_30 ⟨Nat.zero_le _, Nat.zero_le _⟩ (fun H locs hP hS => ?_)
      refine lv_istore (lv' := [(4, .int r6), (0, .ref (E 6)), (1, .ref (E (41 + 5 * d1))), (2, .int v2), (3, .int v3)]) hx hb dX2_chanceOfAll_33 hl (by decide) rfl (fun ls hl => ?_)
      refine lv_aload_n hx hb dX2_chanceOfAll_35 rfl (lv_at hl 1 rfl) ?_
      refine gf_X2_15 hC hb hP dX2_chanceOfAll_36 ?_
      refine lv_iload_n hx hb dX2_chanceOfAll_39 rfl (lv_at hl 4 rfl) ?_
      refine lv_iload hx hb dX2_chanceOfAll_40 (lv_at hl 0 rfl) ?_
      refine lv_if_ge (tgt := 54) hx hb dX2_chanceOfAll_42 (by decide) (fun c9 => ?_) (fun c9 => ?_)
      · have h := of_t h c9
        refine lv_aload_n hx hb dX2_chanceOfAll_54 rfl (lv_at hl 1 rfl) ?_
        refine lv_aload_n hx hb dX2_chanceOfAll_55 rfl (lv_at hl 1 rfl) ?_
        refine gf_X2_9 hC hb hP dX2_chanceOfAll_56 ?_
        refine lv_iconst (v := 0) hx hb dX2_chanceOfAll_59 (by decide) ?_
        refine lv_iload_n hx hb dX2_chanceOfAll_60 rfl (lv_at hl 4 rfl) ?_
        refine lv_iload hx hb dX2_chanceOfAll_61 (lv_at hl 0 rfl) ?_
        obtain ⟨r10, σ11, g12, h⟩ := of_bnd h
        refine x_VL (As := [.ref (E 38), .int 0, .int v3, .int r6]) (rest := [.int v3, .ref (E 39)]) hF hl hP hS (c_X2_later lc_38 g12) (cw_X2_83 hC rfl rfl ⟨Nat.le_of_ble_eq_true rfl, Nat.le_of_ble_eq_true rfl⟩) lc_6 rfl rfl rfl (Nat.le_of_ble_eq_true rfl) dX2_chanceOfAll_63 ⟨Nat.zero_le _, Nat.zero_le _⟩ (fun H locs hP hS => ?_)
        exact t_X2_chanceOfAll_66  hd1 hF k6 (f_X2_chanceOfAll_16 d1 k6 n) hk6 ih v2 v3 r10 v3 σ11 _ _ _ h hP hS (lv_sub hl [1, 2, 3, 4] rfl)
      · have h := of_f h c9
        refine lv_aload_n hx hb dX2_chanceOfAll_45 rfl (lv_at hl 1 rfl) ?_
        refine gf_X2_9 hC hb hP dX2_chanceOfAll_46 ?_
        refine lv_iload_n hx hb dX2_chanceOfAll_49 rfl (lv_at hl 4 rfl) ?_
        obtain ⟨g13, h⟩ := of_gd h
        refine x_lald hC hb hP lc_38 g13 dX2_chanceOfAll_50 ?_
        refine lv_goto (tgt := 66) hx hb dX2_chanceOfAll_51 (by decide) ?_
        exact t_X2_chanceOfAll_66  hd1 hF k6 (f_X2_chanceOfAll_16 d1 k6 n) hk6 ih v2 v3 (gJ σ7 38 (v3.toNatClampNeg)) v3 σ7 _ _ _ h hP hS (lv_sub hl [1, 2, 3, 4] rfl)

def f_X2_chanceOfAll_6 (d1 : Nat) : Nat → Int32 → Sta → Option (Int32 × Sta)
  | 0, _, _ => none
  | n + 1, v2, σ => if gI σ (64 * (41 + 5 * d1) + 1) < v2 then
      if (0 : Int32) < 0 ∨ 100 ≤ ((0 : Int32).toNatClampNeg) then none else (
      some ((gJ σ 38 ((0 : Int32).toNatClampNeg)).toInt32, σ))
    else
      f_X2_chanceOfAll_16 d1 (f_X2_chanceOfAll_6 d1 n) FU v2 0 σ
set_option maxHeartbeats 4000000 in
set_option maxRecDepth 100000 in
theorem t_X2_chanceOfAll_6 {l : Launch} {D : va_G} {Y : CYs} {E : Nat → Nat} {p : Program} {e : Env} {s : State} {m : MethodId} {args : Array Value} {below : List Frame} {meth : Method} {c : Code} {d1 : Nat} (hd1 : d1 < 13) (hF : Fr p s m args meth c RX2 cX2_chanceOfAll 5 (some .int) D Y E LC) {o : Int32 × Sta} : ∀ (n : Nat) (v2 : Int32) (σ : Sta) (H : Heap) (locs : List Loc) (ls : Array Slot), f_X2_chanceOfAll_6 d1 n v2 σ = some o → va_P D vwCl (wd Y E σ 0 LC) H → va_S (AF E LC.length s.heap.size) s.heap H locs → lv_has ls 5 [(0, .ref (E 6)), (1, .ref (E (41 + 5 * d1))), (2, .int v2)] → WI p l e rm_X2_chanceOfAll s m args below meth c LC Y D E o H locs (F0 m 6 ls []) := by
  intro n
  induction n with
  | zero =>
    intro v2 σ H locs ls h hP hS hl
    exact nomatch (show (none : Option (Int32 × Sta)) = some o from h)
  | succ n ih =>
    intro v2 σ H locs ls h hP hS hl
    rw [f_X2_chanceOfAll_6] at h
    obtain ⟨hC, hb, hml, hr, hlk, hD, hSW⟩ := id hF
    have hx := hC.1
    refine lv_iload_n hx hb dX2_chanceOfAll_6 rfl (lv_at hl 2 rfl) ?_
    refine lv_aload_n hx hb dX2_chanceOfAll_7 rfl (lv_at hl 1 rfl) ?_
    refine gf_X2_22 hC hb hP hd1 dX2_chanceOfAll_8 ?_
    refine lv_icmp_gt (tgt := 83) hx hb dX2_chanceOfAll_11 (by decide) (fun c1 => ?_) (fun c1 => ?_)
    · have h := of_t h c1
      refine lv_aload_n hx hb dX2_chanceOfAll_83 rfl (lv_at hl 0 rfl) ?_
      refine gf_X2_9 hC hb hP dX2_chanceOfAll_84 ?_
      refine lv_iconst (v := 0) hx hb dX2_chanceOfAll_87 (by decide) ?_
      obtain ⟨g2, h⟩ := of_gd h
      refine x_lald hC hb hP lc_38 g2 dX2_chanceOfAll_88 ?_
      refine lv_l2i (v := (gJ σ 38 ((0 : Int32).toNatClampNeg)).toInt32) hx hb dX2_chanceOfAll_89 rfl ?_
      exact x_iret hF hP hS h dX2_chanceOfAll_90
    · have h := of_f h c1
      refine lv_iconst (v := 0) hx hb dX2_chanceOfAll_14 (by decide) ?_
      refine lv_istore_n (lv' := [(3, .int 0), (0, .ref (E 6)), (1, .ref (E (41 + 5 * d1))), (2, .int v2)]) hx hb dX2_chanceOfAll_15 rfl hl (by decide) rfl (fun ls hl => ?_)
      exact t_X2_chanceOfAll_16  hd1 hF (f_X2_chanceOfAll_6 d1 n) ih FU v2 0 σ _ _ _ h hP hS (lv_sub hl [1, 2, 3, 0] rfl)

def f_X2_chanceOfAll (d1 : Nat) (σ : Sta) : Option (Int32 × Sta) :=
  bnd (f_X2_startChances σ) (fun _ σ2 =>
  f_X2_chanceOfAll_6 d1 FU 1 σ2)
set_option maxHeartbeats 4000000 in
set_option maxRecDepth 100000 in
theorem c_X2_chanceOfAll {l : Launch} {D : va_G} {Y : CYs} {E : Nat → Nat} {d1 : Nat} (hd1 : d1 < 13) {σ : Sta} {o : Int32 × Sta} (h : f_X2_chanceOfAll d1 σ = some o) : MI l yX2_chanceOfAll (Cond.code yX2_chanceOfAll cX2_chanceOfAll 5 (some .int) :: gW) rm_X2_chanceOfAll LC Y D E [.ref (E 6), .ref (E (41 + 5 * d1))] σ o := by
  intro sz
  refine Met_of (Qc := fun sz => QI LC Y D E sz o) (by decide) (Nat.le_of_ble_eq_true rfl) (fun p e s m args below meth c hF hP ls hl => ?_) sz
  have hS : va_S (AF E LC.length s.heap.size) s.heap s.heap [] := va_S.rf
  have hl : lv_has ls 5 [(0, .ref (E 6)), (1, .ref (E (41 + 5 * d1)))] := hl
  show WI p l e rm_X2_chanceOfAll s m args below meth c LC Y D E o s.heap [] (F0 m 0 ls [])
  unfold f_X2_chanceOfAll at h
  obtain ⟨hC, hb, hml, hr, hlk, hD, hSW⟩ := id hF
  have hx := hC.1
  refine lv_aload_n hx hb dX2_chanceOfAll_0 rfl (lv_at hl 0 rfl) ?_
  obtain ⟨r1, σ2, g3, h⟩ := of_bnd h
  refine x_VV (As := []) (rest := []) hF hl hP hS (c_X2_startChances g3) (cw_X2_60 hC rfl rfl ⟨Nat.le_of_ble_eq_true rfl, Nat.le_of_ble_eq_true rfl⟩) lc_6 rfl rfl rfl (Nat.le_of_ble_eq_true rfl) dX2_chanceOfAll_1 ⟨Nat.zero_le _, Nat.zero_le _⟩ (fun H locs hP hS => ?_)
  refine lv_iconst (v := 1) hx hb dX2_chanceOfAll_4 (by decide) ?_
  refine lv_istore_n (lv' := [(2, .int 1), (0, .ref (E 6)), (1, .ref (E (41 + 5 * d1)))]) hx hb dX2_chanceOfAll_5 rfl hl (by decide) rfl (fun ls hl => ?_)
  exact t_X2_chanceOfAll_6  hd1 hF FU 1 σ2 _ _ _ h hP hS (lv_sub hl [1, 2, 0] rfl)

abbrev rm_X2_plan : Room := { frames := 5, cells := 0, slots := 0, locals := 124 }
def f_X2_plan_18 (d1 : Nat) (k2 : Int32 → Sta → Option (Unit × Sta)) : Nat → Int32 → Int32 → Sta → Option (Unit × Sta)
  | 0, _, _, _ => none
  | n + 1, v2, v3, σ => if gI σ 322 ≤ v3 then
      lt (v2 + 1) (fun x2 =>
      k2 x2 σ)
    else
      bnd (f_X2_choose d1 v3 v2 σ) (fun _ σ4 =>
      lt (v3 + 1) (fun x6 =>
      f_X2_plan_18 d1 k2 n v2 x6 σ4))
set_option maxHeartbeats 4000000 in
set_option maxRecDepth 100000 in
theorem t_X2_plan_18 {l : Launch} {D : va_G} {Y : CYs} {E : Nat → Nat} {p : Program} {e : Env} {s : State} {m : MethodId} {args : Array Value} {below : List Frame} {meth : Method} {c : Code} {d1 : Nat} (hd1 : d1 < 13) (hF : Fr p s m args meth c RX2 cX2_plan 4 none D Y E LC) {o : Unit × Sta} (k2 : Int32 → Sta → Option (Unit × Sta)) (hk2 : ∀ (v2 : Int32) (σ : Sta) (H : Heap) (locs : List Loc) (ls : Array Slot), k2 v2 σ = some o → va_P D vwCl (wd Y E σ 0 LC) H → va_S (AF E LC.length s.heap.size) s.heap H locs → lv_has ls 4 [(0, .ref (E 6)), (1, .ref (E (41 + 5 * d1))), (2, .int v2)] → WV p l e rm_X2_plan s m args below meth c LC Y D E o H locs (F0 m 2 ls [])) : ∀ (n : Nat) (v2 : Int32) (v3 : Int32) (σ : Sta) (H : Heap) (locs : List Loc) (ls : Array Slot), f_X2_plan_18 d1 k2 n v2 v3 σ = some o → va_P D vwCl (wd Y E σ 0 LC) H → va_S (AF E LC.length s.heap.size) s.heap H locs → lv_has ls 4 [(0, .ref (E 6)), (1, .ref (E (41 + 5 * d1))), (2, .int v2), (3, .int v3)] → WV p l e rm_X2_plan s m args below meth c LC Y D E o H locs (F0 m 18 ls []) := by
  intro n
  induction n with
  | zero =>
    intro v2 v3 σ H locs ls h hP hS hl
    exact nomatch (show (none : Option (Unit × Sta)) = some o from h)
  | succ n ih =>
    intro v2 v3 σ H locs ls h hP hS hl
    rw [f_X2_plan_18] at h
    obtain ⟨hC, hb, hml, hr, hlk, hD, hSW⟩ := id hF
    have hx := hC.1
    refine lv_iload_n hx hb dX2_plan_18 rfl (lv_at hl 3 rfl) ?_
    refine lv_aload_n hx hb dX2_plan_19 rfl (lv_at hl 0 rfl) ?_
    refine gf_X2_18 hC hb hP dX2_plan_20 ?_
    refine gf_X2_28 hC hb hP dX2_plan_23 ?_
    refine lv_icmp_ge (tgt := 42) hx hb dX2_plan_26 (by decide) (fun c1 => ?_) (fun c1 => ?_)
    · have h := of_t h c1
      obtain ⟨x2, ex2⟩ : ∃ y : Int32, y = v2 + 1 := ⟨_, rfl⟩
      have h := of_lt h ex2
      refine lv_iinc (v := x2) (lv' := [(2, .int x2), (0, .ref (E 6)), (1, .ref (E (41 + 5 * d1))), (3, .int v3)]) hx hb dX2_plan_42 hl (k := 2) rfl (by rw [ex2]; rfl) (by decide) rfl (fun ls hl => ?_)
      refine lv_goto (tgt := 2) hx hb dX2_plan_45 (by decide) ?_
      exact hk2 x2 σ _ _ _ h hP hS (lv_sub hl [1, 2, 0] rfl)
    · have h := of_f h c1
      refine lv_aload_n hx hb dX2_plan_29 rfl (lv_at hl 0 rfl) ?_
      refine lv_aload_n hx hb dX2_plan_30 rfl (lv_at hl 1 rfl) ?_
      refine lv_iload_n hx hb dX2_plan_31 rfl (lv_at hl 3 rfl) ?_
      refine lv_iload_n hx hb dX2_plan_32 rfl (lv_at hl 2 rfl) ?_
      obtain ⟨r3, σ4, g5, h⟩ := of_bnd h
      refine x_VV (As := [.ref (E (41 + 5 * d1)), .int v3, .int v2]) (rest := []) hF hl hP hS (c_X2_choose hd1 g5) (cw_X2_33 hC rfl rfl ⟨Nat.le_of_ble_eq_true rfl, Nat.le_of_ble_eq_true rfl⟩) lc_6 rfl rfl rfl (Nat.le_of_ble_eq_true rfl) dX2_plan_33 ⟨Nat.zero_le _, Nat.zero_le _⟩ (fun H locs hP hS => ?_)
      obtain ⟨x6, ex6⟩ : ∃ y : Int32, y = v3 + 1 := ⟨_, rfl⟩
      have h := of_lt h ex6
      refine lv_iinc (v := x6) (lv' := [(3, .int x6), (0, .ref (E 6)), (1, .ref (E (41 + 5 * d1))), (2, .int v2)]) hx hb dX2_plan_36 hl (k := 3) rfl (by rw [ex6]; rfl) (by decide) rfl (fun ls hl => ?_)
      refine lv_goto (tgt := 18) hx hb dX2_plan_39 (by decide) ?_
      exact ih v2 x6 σ4 _ _ _ h hP hS (lv_sub hl [1, 2, 3, 0] rfl)

def f_X2_plan_50 (d1 : Nat) : Nat → Int32 → Sta → Option (Unit × Sta)
  | 0, _, _ => none
  | n + 1, v2, σ => if gI σ 197 ≤ v2 then
      bnd (f_X2_chanceOfAll d1 σ) (fun r2 σ3 =>
      lt (sI σ3 (64 * (41 + 5 * d1) + 5) r2) (fun σ5 =>
      some ((), σ5)))
    else
      bnd (f_X2_gainOfAll d1 v2 σ) (fun r6 σ7 =>
      if v2 < 0 ∨ 3 ≤ (v2.toNatClampNeg) then none else (
      lt (sJ σ7 (41 + 5 * d1 + 4) (vp_updL (gJ σ7 (41 + 5 * d1 + 4)) (v2.toNatClampNeg) r6)) (fun σ10 =>
      lt (v2 + 1) (fun x11 =>
      f_X2_plan_50 d1 n x11 σ10))))
set_option maxHeartbeats 4000000 in
set_option maxRecDepth 100000 in
theorem t_X2_plan_50 {l : Launch} {D : va_G} {Y : CYs} {E : Nat → Nat} {p : Program} {e : Env} {s : State} {m : MethodId} {args : Array Value} {below : List Frame} {meth : Method} {c : Code} {d1 : Nat} (hd1 : d1 < 13) (hF : Fr p s m args meth c RX2 cX2_plan 4 none D Y E LC) {o : Unit × Sta} : ∀ (n : Nat) (v2 : Int32) (σ : Sta) (H : Heap) (locs : List Loc) (ls : Array Slot), f_X2_plan_50 d1 n v2 σ = some o → va_P D vwCl (wd Y E σ 0 LC) H → va_S (AF E LC.length s.heap.size) s.heap H locs → lv_has ls 4 [(0, .ref (E 6)), (1, .ref (E (41 + 5 * d1))), (2, .int v2)] → WV p l e rm_X2_plan s m args below meth c LC Y D E o H locs (F0 m 50 ls []) := by
  intro n
  induction n with
  | zero =>
    intro v2 σ H locs ls h hP hS hl
    exact nomatch (show (none : Option (Unit × Sta)) = some o from h)
  | succ n ih =>
    intro v2 σ H locs ls h hP hS hl
    rw [f_X2_plan_50] at h
    obtain ⟨hC, hb, hml, hr, hlk, hD, hSW⟩ := id hF
    have hx := hC.1
    refine lv_iload_n hx hb dX2_plan_50 rfl (lv_at hl 2 rfl) ?_
    refine lv_aload_n hx hb dX2_plan_51 rfl (lv_at hl 0 rfl) ?_
    refine gf_X2_18 hC hb hP dX2_plan_52 ?_
    refine gf_X2_37 hC hb hP dX2_plan_55 ?_
    refine gf_X2_41 hC hb hP dX2_plan_58 ?_
    refine lv_icmp_ge (tgt := 82) hx hb dX2_plan_61 (by decide) (fun c1 => ?_) (fun c1 => ?_)
    · have h := of_t h c1
      refine lv_aload_n hx hb dX2_plan_82 rfl (lv_at hl 1 rfl) ?_
      refine lv_aload_n hx hb dX2_plan_83 rfl (lv_at hl 0 rfl) ?_
      refine lv_aload_n hx hb dX2_plan_84 rfl (lv_at hl 1 rfl) ?_
      obtain ⟨r2, σ3, g4, h⟩ := of_bnd h
      refine x_VI (As := [.ref (E (41 + 5 * d1))]) (rest := [.ref (E (41 + 5 * d1))]) hF hl hP hS (c_X2_chanceOfAll hd1 g4) (cw_X2_53 hC rfl rfl ⟨Nat.le_of_ble_eq_true rfl, Nat.le_of_ble_eq_true rfl⟩) lc_6 rfl rfl rfl (Nat.le_of_ble_eq_true rfl) dX2_plan_85 ⟨Nat.zero_le _, Nat.zero_le _⟩ (fun H locs hP hS => ?_)
      refine pf_X2_57 hC hb hP hD hS hd1 dX2_plan_88 (fun H locs σ5 eσ5 hP hS => ?_)
      have h := of_lt h eσ5
      exact x_vret hF hP hS h dX2_plan_91
    · have h := of_f h c1
      refine lv_aload_n hx hb dX2_plan_64 rfl (lv_at hl 1 rfl) ?_
      refine gf_X2_46 hC hb hP hd1 dX2_plan_65 ?_
      refine lv_iload_n hx hb dX2_plan_68 rfl (lv_at hl 2 rfl) ?_
      refine lv_aload_n hx hb dX2_plan_69 rfl (lv_at hl 0 rfl) ?_
      refine lv_aload_n hx hb dX2_plan_70 rfl (lv_at hl 1 rfl) ?_
      refine lv_iload_n hx hb dX2_plan_71 rfl (lv_at hl 2 rfl) ?_
      obtain ⟨r6, σ7, g8, h⟩ := of_bnd h
      refine x_VL (As := [.ref (E (41 + 5 * d1)), .int v2]) (rest := [.int v2, .ref (E (41 + 5 * d1 + 4))]) hF hl hP hS (c_X2_gainOfAll hd1 g8) (cw_X2_49 hC rfl rfl ⟨Nat.le_of_ble_eq_true rfl, Nat.le_of_ble_eq_true rfl⟩) lc_6 rfl rfl rfl (Nat.le_of_ble_eq_true rfl) dX2_plan_72 ⟨Nat.zero_le _, Nat.zero_le _⟩ (fun H locs hP hS => ?_)
      obtain ⟨g9, h⟩ := of_gd h
      refine x_last lokC hC hb hP hD hS (lc_s4 hd1) g9 dX2_plan_75 (fun H locs σ10 eσ10 hP hS => ?_)
      have h := of_lt h eσ10
      obtain ⟨x11, ex11⟩ : ∃ y : Int32, y = v2 + 1 := ⟨_, rfl⟩
      have h := of_lt h ex11
      refine lv_iinc (v := x11) (lv' := [(2, .int x11), (0, .ref (E 6)), (1, .ref (E (41 + 5 * d1)))]) hx hb dX2_plan_76 hl (k := 2) rfl (by rw [ex11]; rfl) (by decide) rfl (fun ls hl => ?_)
      refine lv_goto (tgt := 50) hx hb dX2_plan_79 (by decide) ?_
      exact ih x11 σ10 _ _ _ h hP hS (lv_sub hl [1, 2, 0] rfl)

def f_X2_plan_48 (d1 : Nat) (σ : Sta) : Option (Unit × Sta) :=
  f_X2_plan_50 d1 FU 0 σ
set_option maxHeartbeats 4000000 in
set_option maxRecDepth 100000 in
theorem t_X2_plan_48 {l : Launch} {D : va_G} {Y : CYs} {E : Nat → Nat} {p : Program} {e : Env} {s : State} {m : MethodId} {args : Array Value} {below : List Frame} {meth : Method} {c : Code} {d1 : Nat} (hd1 : d1 < 13) (hF : Fr p s m args meth c RX2 cX2_plan 4 none D Y E LC) {o : Unit × Sta} : ∀ (σ : Sta) (H : Heap) (locs : List Loc) (ls : Array Slot), f_X2_plan_48 d1 σ = some o → va_P D vwCl (wd Y E σ 0 LC) H → va_S (AF E LC.length s.heap.size) s.heap H locs → lv_has ls 4 [(0, .ref (E 6)), (1, .ref (E (41 + 5 * d1)))] → WV p l e rm_X2_plan s m args below meth c LC Y D E o H locs (F0 m 48 ls []) := by
  intro σ H locs ls h hP hS hl
  unfold f_X2_plan_48 at h
  obtain ⟨hC, hb, hml, hr, hlk, hD, hSW⟩ := id hF
  have hx := hC.1
  refine lv_iconst (v := 0) hx hb dX2_plan_48 (by decide) ?_
  refine lv_istore_n (lv' := [(2, .int 0), (0, .ref (E 6)), (1, .ref (E (41 + 5 * d1)))]) hx hb dX2_plan_49 rfl hl (by decide) rfl (fun ls hl => ?_)
  exact t_X2_plan_50  hd1 hF FU 0 σ _ _ _ h hP hS (lv_sub hl [1, 2, 0] rfl)

def f_X2_plan_2 (d1 : Nat) : Nat → Int32 → Sta → Option (Unit × Sta)
  | 0, _, _ => none
  | n + 1, v2, σ => if gI σ (64 * (41 + 5 * d1) + 1) < v2 then
      f_X2_plan_48 d1 σ
    else
      if 30 < v2 then
        f_X2_plan_48 d1 σ
      else
        f_X2_plan_18 d1 (f_X2_plan_2 d1 n) FU v2 0 σ
set_option maxHeartbeats 4000000 in
set_option maxRecDepth 100000 in
theorem t_X2_plan_2 {l : Launch} {D : va_G} {Y : CYs} {E : Nat → Nat} {p : Program} {e : Env} {s : State} {m : MethodId} {args : Array Value} {below : List Frame} {meth : Method} {c : Code} {d1 : Nat} (hd1 : d1 < 13) (hF : Fr p s m args meth c RX2 cX2_plan 4 none D Y E LC) {o : Unit × Sta} : ∀ (n : Nat) (v2 : Int32) (σ : Sta) (H : Heap) (locs : List Loc) (ls : Array Slot), f_X2_plan_2 d1 n v2 σ = some o → va_P D vwCl (wd Y E σ 0 LC) H → va_S (AF E LC.length s.heap.size) s.heap H locs → lv_has ls 4 [(0, .ref (E 6)), (1, .ref (E (41 + 5 * d1))), (2, .int v2)] → WV p l e rm_X2_plan s m args below meth c LC Y D E o H locs (F0 m 2 ls []) := by
  intro n
  induction n with
  | zero =>
    intro v2 σ H locs ls h hP hS hl
    exact nomatch (show (none : Option (Unit × Sta)) = some o from h)
  | succ n ih =>
    intro v2 σ H locs ls h hP hS hl
    rw [f_X2_plan_2] at h
    obtain ⟨hC, hb, hml, hr, hlk, hD, hSW⟩ := id hF
    have hx := hC.1
    refine lv_iload_n hx hb dX2_plan_2 rfl (lv_at hl 2 rfl) ?_
    refine lv_aload_n hx hb dX2_plan_3 rfl (lv_at hl 1 rfl) ?_
    refine gf_X2_22 hC hb hP hd1 dX2_plan_4 ?_
    refine lv_icmp_gt (tgt := 48) hx hb dX2_plan_7 (by decide) (fun c1 => ?_) (fun c1 => ?_)
    · have h := of_t h c1
      exact t_X2_plan_48  hd1 hF σ _ _ _ h hP hS (lv_sub hl [0, 1] rfl)
    · have h := of_f h c1
      refine lv_iload_n hx hb dX2_plan_10 rfl (lv_at hl 2 rfl) ?_
      refine lv_bipush (v := 30) hx hb dX2_plan_11 (by decide) ?_
      refine lv_icmp_gt (tgt := 48) hx hb dX2_plan_13 (by decide) (fun c2 => ?_) (fun c2 => ?_)
      · have h := of_t h c2
        exact t_X2_plan_48  hd1 hF σ _ _ _ h hP hS (lv_sub hl [0, 1] rfl)
      · have h := of_f h c2
        refine lv_iconst (v := 0) hx hb dX2_plan_16 (by decide) ?_
        refine lv_istore_n (lv' := [(3, .int 0), (0, .ref (E 6)), (1, .ref (E (41 + 5 * d1))), (2, .int v2)]) hx hb dX2_plan_17 rfl hl (by decide) rfl (fun ls hl => ?_)
        exact t_X2_plan_18  hd1 hF (f_X2_plan_2 d1 n) ih FU v2 0 σ _ _ _ h hP hS (lv_sub hl [1, 2, 3, 0] rfl)

def f_X2_plan (d1 : Nat) (σ : Sta) : Option (Unit × Sta) :=
  f_X2_plan_2 d1 FU 1 σ
set_option maxHeartbeats 4000000 in
set_option maxRecDepth 100000 in
theorem c_X2_plan {l : Launch} {D : va_G} {Y : CYs} {E : Nat → Nat} {d1 : Nat} (hd1 : d1 < 13) {σ : Sta} {o : Unit × Sta} (h : f_X2_plan d1 σ = some o) : MV l yX2_plan (Cond.code yX2_plan cX2_plan 4 none :: gW) rm_X2_plan LC Y D E [.ref (E 6), .ref (E (41 + 5 * d1))] σ o := by
  intro sz
  refine Met_of (Qc := fun sz => QV LC Y D E sz o) (by decide) (Nat.le_of_ble_eq_true rfl) (fun p e s m args below meth c hF hP ls hl => ?_) sz
  have hS : va_S (AF E LC.length s.heap.size) s.heap s.heap [] := va_S.rf
  have hl : lv_has ls 4 [(0, .ref (E 6)), (1, .ref (E (41 + 5 * d1)))] := hl
  show WV p l e rm_X2_plan s m args below meth c LC Y D E o s.heap [] (F0 m 0 ls [])
  unfold f_X2_plan at h
  obtain ⟨hC, hb, hml, hr, hlk, hD, hSW⟩ := id hF
  have hx := hC.1
  refine lv_iconst (v := 1) hx hb dX2_plan_0 (by decide) ?_
  refine lv_istore_n (lv' := [(2, .int 1), (0, .ref (E 6)), (1, .ref (E (41 + 5 * d1)))]) hx hb dX2_plan_1 rfl hl (by decide) rfl (fun ls hl => ?_)
  exact t_X2_plan_2  hd1 hF FU 1 σ _ _ _ h hP hS (lv_sub hl [1, 2, 0] rfl)

abbrev rm_X2_extremeIn : Room := { frames := 4, cells := 0, slots := 0, locals := 95 }
def f_X2_extremeIn_67 (k10 : Int32 → Int32 → Int64 → Int32 → Sta → Option (Int64 × Sta)) (v1 : Int32) (v2 : Int32) (v3 : Int64) (v5 : Int32) (σ : Sta) : Option (Int64 × Sta) :=
  lt (v5 + 1) (fun x1 =>
  k10 v1 v2 v3 x1 σ)
set_option maxHeartbeats 4000000 in
set_option maxRecDepth 100000 in
theorem t_X2_extremeIn_67 {l : Launch} {D : va_G} {Y : CYs} {E : Nat → Nat} {p : Program} {e : Env} {s : State} {m : MethodId} {args : Array Value} {below : List Frame} {meth : Method} {c : Code} (hF : Fr p s m args meth c RX2 cX2_extremeIn 8 (some .long) D Y E LC) {o : Int64 × Sta} (k10 : Int32 → Int32 → Int64 → Int32 → Sta → Option (Int64 × Sta)) (hk10 : ∀ (v1 : Int32) (v2 : Int32) (v3 : Int64) (v5 : Int32) (σ : Sta) (H : Heap) (locs : List Loc) (ls : Array Slot), k10 v1 v2 v3 v5 σ = some o → va_P D vwCl (wd Y E σ 0 LC) H → va_S (AF E LC.length s.heap.size) s.heap H locs → lv_has ls 8 [(0, .ref (E 6)), (1, .int v1), (2, .int v2), (3, .long v3), (5, .int v5)] → WL p l e rm_X2_extremeIn s m args below meth c LC Y D E o H locs (F0 m 10 ls [])) : ∀ (v1 : Int32) (v2 : Int32) (v3 : Int64) (v5 : Int32) (σ : Sta) (H : Heap) (locs : List Loc) (ls : Array Slot), f_X2_extremeIn_67 k10 v1 v2 v3 v5 σ = some o → va_P D vwCl (wd Y E σ 0 LC) H → va_S (AF E LC.length s.heap.size) s.heap H locs → lv_has ls 8 [(0, .ref (E 6)), (1, .int v1), (2, .int v2), (3, .long v3), (5, .int v5)] → WL p l e rm_X2_extremeIn s m args below meth c LC Y D E o H locs (F0 m 67 ls []) := by
  intro v1 v2 v3 v5 σ H locs ls h hP hS hl
  unfold f_X2_extremeIn_67 at h
  obtain ⟨hC, hb, hml, hr, hlk, hD, hSW⟩ := id hF
  have hx := hC.1
  obtain ⟨x1, ex1⟩ : ∃ y : Int32, y = v5 + 1 := ⟨_, rfl⟩
  have h := of_lt h ex1
  refine lv_iinc (v := x1) (lv' := [(5, .int x1), (0, .ref (E 6)), (1, .int v1), (2, .int v2), (3, .long v3)]) hx hb dX2_extremeIn_67 hl (k := 4) rfl (by rw [ex1]; rfl) (by decide) rfl (fun ls hl => ?_)
  refine lv_goto (tgt := 10) hx hb dX2_extremeIn_70 (by decide) ?_
  exact hk10 v1 v2 v3 x1 σ _ _ _ h hP hS (lv_sub hl [1, 2, 3, 4, 0] rfl)

def f_X2_extremeIn_64 (k10 : Int32 → Int32 → Int64 → Int32 → Sta → Option (Int64 × Sta)) (v1 : Int32) (v2 : Int32) (v5 : Int32) (v6 : Int64) (σ : Sta) : Option (Int64 × Sta) :=
  f_X2_extremeIn_67 k10 v1 v2 v6 v5 σ
set_option maxHeartbeats 4000000 in
set_option maxRecDepth 100000 in
theorem t_X2_extremeIn_64 {l : Launch} {D : va_G} {Y : CYs} {E : Nat → Nat} {p : Program} {e : Env} {s : State} {m : MethodId} {args : Array Value} {below : List Frame} {meth : Method} {c : Code} (hF : Fr p s m args meth c RX2 cX2_extremeIn 8 (some .long) D Y E LC) {o : Int64 × Sta} (k10 : Int32 → Int32 → Int64 → Int32 → Sta → Option (Int64 × Sta)) (hk10 : ∀ (v1 : Int32) (v2 : Int32) (v3 : Int64) (v5 : Int32) (σ : Sta) (H : Heap) (locs : List Loc) (ls : Array Slot), k10 v1 v2 v3 v5 σ = some o → va_P D vwCl (wd Y E σ 0 LC) H → va_S (AF E LC.length s.heap.size) s.heap H locs → lv_has ls 8 [(0, .ref (E 6)), (1, .int v1), (2, .int v2), (3, .long v3), (5, .int v5)] → WL p l e rm_X2_extremeIn s m args below meth c LC Y D E o H locs (F0 m 10 ls [])) : ∀ (v1 : Int32) (v2 : Int32) (v5 : Int32) (v6 : Int64) (σ : Sta) (H : Heap) (locs : List Loc) (ls : Array Slot), f_X2_extremeIn_64 k10 v1 v2 v5 v6 σ = some o → va_P D vwCl (wd Y E σ 0 LC) H → va_S (AF E LC.length s.heap.size) s.heap H locs → lv_has ls 8 [(0, .ref (E 6)), (1, .int v1), (2, .int v2), (5, .int v5), (6, .long v6)] → WL p l e rm_X2_extremeIn s m args below meth c LC Y D E o H locs (F0 m 64 ls []) := by
  intro v1 v2 v5 v6 σ H locs ls h hP hS hl
  unfold f_X2_extremeIn_64 at h
  obtain ⟨hC, hb, hml, hr, hlk, hD, hSW⟩ := id hF
  have hx := hC.1
  refine lv_lload hx hb dX2_extremeIn_64 (lv_at hl 4 rfl) ?_
  refine lv_lstore_n (lv' := [(3, .long v6), (0, .ref (E 6)), (1, .int v1), (2, .int v2), (5, .int v5), (6, .long v6)]) hx hb dX2_extremeIn_66 rfl hl (by decide) rfl (fun ls hl => ?_)
  exact t_X2_extremeIn_67  hF k10 hk10 v1 v2 v6 v5 σ _ _ _ h hP hS (lv_sub hl [1, 2, 3, 0, 4] rfl)

def f_X2_extremeIn_10 : Nat → Int32 → Int32 → Int64 → Int32 → Sta → Option (Int64 × Sta)
  | 0, _, _, _, _, _ => none
  | n + 1, v1, v2, v3, v5, σ => if v1 < 0 ∨ 100 ≤ (v1.toNatClampNeg) then none else (
    if gA σ 33 (v1.toNatClampNeg) ≤ v5 then
      some (v3, σ)
    else
      bnd (f_X2_later 38 100 0 v1 v5 σ) (fun r3 σ4 =>
      if v5 = 0 then
        f_X2_extremeIn_64 (f_X2_extremeIn_10 n) v1 v2 v5 r3 σ4
      else
        if v2 = 0 then
          if lg_cmp r3 v3 ≤ 0 then
            f_X2_extremeIn_67 (f_X2_extremeIn_10 n) v1 v2 v3 v5 σ4
          else
            f_X2_extremeIn_64 (f_X2_extremeIn_10 n) v1 v2 v5 r3 σ4
        else
          if 0 ≤ lg_cmp r3 v3 then
            f_X2_extremeIn_67 (f_X2_extremeIn_10 n) v1 v2 v3 v5 σ4
          else
            f_X2_extremeIn_64 (f_X2_extremeIn_10 n) v1 v2 v5 r3 σ4))
set_option maxHeartbeats 4000000 in
set_option maxRecDepth 100000 in
theorem t_X2_extremeIn_10 {l : Launch} {D : va_G} {Y : CYs} {E : Nat → Nat} {p : Program} {e : Env} {s : State} {m : MethodId} {args : Array Value} {below : List Frame} {meth : Method} {c : Code} (hF : Fr p s m args meth c RX2 cX2_extremeIn 8 (some .long) D Y E LC) {o : Int64 × Sta} : ∀ (n : Nat) (v1 : Int32) (v2 : Int32) (v3 : Int64) (v5 : Int32) (σ : Sta) (H : Heap) (locs : List Loc) (ls : Array Slot), f_X2_extremeIn_10 n v1 v2 v3 v5 σ = some o → va_P D vwCl (wd Y E σ 0 LC) H → va_S (AF E LC.length s.heap.size) s.heap H locs → lv_has ls 8 [(0, .ref (E 6)), (1, .int v1), (2, .int v2), (3, .long v3), (5, .int v5)] → WL p l e rm_X2_extremeIn s m args below meth c LC Y D E o H locs (F0 m 10 ls []) := by
  intro n
  induction n with
  | zero =>
    intro v1 v2 v3 v5 σ H locs ls h hP hS hl
    exact nomatch (show (none : Option (Int64 × Sta)) = some o from h)
  | succ n ih =>
    intro v1 v2 v3 v5 σ H locs ls h hP hS hl
    rw [f_X2_extremeIn_10] at h
    obtain ⟨hC, hb, hml, hr, hlk, hD, hSW⟩ := id hF
    have hx := hC.1
    refine lv_iload hx hb dX2_extremeIn_10 (lv_at hl 4 rfl) ?_
    refine lv_aload_n hx hb dX2_extremeIn_12 rfl (lv_at hl 0 rfl) ?_
    refine gf_X2_18 hC hb hP dX2_extremeIn_13 ?_
    refine gf_X2_70 hC hb hP dX2_extremeIn_16 ?_
    refine lv_iload_n hx hb dX2_extremeIn_19 rfl (lv_at hl 1 rfl) ?_
    obtain ⟨g1, h⟩ := of_gd h
    refine x_iald hC hb hP lc_33 g1 dX2_extremeIn_20 ?_
    refine lv_icmp_ge (tgt := 73) hx hb dX2_extremeIn_21 (by decide) (fun c2 => ?_) (fun c2 => ?_)
    · have h := of_t h c2
      refine lv_lload_n hx hb dX2_extremeIn_73 rfl (lv_at hl 3 rfl) ?_
      exact x_lret hF hP hS h dX2_extremeIn_74
    · have h := of_f h c2
      refine lv_aload_n hx hb dX2_extremeIn_24 rfl (lv_at hl 0 rfl) ?_
      refine lv_aload_n hx hb dX2_extremeIn_25 rfl (lv_at hl 0 rfl) ?_
      refine gf_X2_9 hC hb hP dX2_extremeIn_26 ?_
      refine lv_iconst (v := 0) hx hb dX2_extremeIn_29 (by decide) ?_
      refine lv_iload_n hx hb dX2_extremeIn_30 rfl (lv_at hl 1 rfl) ?_
      refine lv_iload hx hb dX2_extremeIn_31 (lv_at hl 4 rfl) ?_
      obtain ⟨r3, σ4, g5, h⟩ := of_bnd h
      refine x_VL (As := [.ref (E 38), .int 0, .int v1, .int v5]) (rest := []) hF hl hP hS (c_X2_later lc_38 g5) (cw_X2_83 hC rfl rfl ⟨Nat.le_of_ble_eq_true rfl, Nat.le_of_ble_eq_true rfl⟩) lc_6 rfl rfl rfl (Nat.le_of_ble_eq_true rfl) dX2_extremeIn_33 ⟨Nat.zero_le _, Nat.zero_le _⟩ (fun H locs hP hS => ?_)
      refine lv_lstore (lv' := [(6, .long r3), (0, .ref (E 6)), (1, .int v1), (2, .int v2), (3, .long v3), (5, .int v5)]) hx hb dX2_extremeIn_36 hl (by decide) rfl (fun ls hl => ?_)
      refine lv_iload hx hb dX2_extremeIn_38 (lv_at hl 5 rfl) ?_
      refine lv_if_eq (tgt := 64) hx hb dX2_extremeIn_40 (by decide) (fun c6 => ?_) (fun c6 => ?_)
      · have h := of_t h c6
        exact t_X2_extremeIn_64  hF (f_X2_extremeIn_10 n) ih v1 v2 v5 r3 σ4 _ _ _ h hP hS (lv_sub hl [1, 2, 3, 5, 0] rfl)
      · have h := of_f h c6
        refine lv_iload_n hx hb dX2_extremeIn_43 rfl (lv_at hl 3 rfl) ?_
        refine lv_if_eq (tgt := 57) hx hb dX2_extremeIn_44 (by decide) (fun c7 => ?_) (fun c7 => ?_)
        · have h := of_t h c7
          refine lv_lload hx hb dX2_extremeIn_57 (lv_at hl 0 rfl) ?_
          refine lv_lload_n hx hb dX2_extremeIn_59 rfl (lv_at hl 4 rfl) ?_
          refine W.lcmp hx hb dX2_extremeIn_60 ?_
          refine lv_if_le (tgt := 67) hx hb dX2_extremeIn_61 (by decide) (fun c8 => ?_) (fun c8 => ?_)
          · have h := of_t h c8
            exact t_X2_extremeIn_67  hF (f_X2_extremeIn_10 n) ih v1 v2 v3 v5 σ4 _ _ _ h hP hS (lv_sub hl [1, 2, 3, 4, 5] rfl)
          · have h := of_f h c8
            exact t_X2_extremeIn_64  hF (f_X2_extremeIn_10 n) ih v1 v2 v5 r3 σ4 _ _ _ h hP hS (lv_sub hl [1, 2, 3, 5, 0] rfl)
        · have h := of_f h c7
          refine lv_lload hx hb dX2_extremeIn_47 (lv_at hl 0 rfl) ?_
          refine lv_lload_n hx hb dX2_extremeIn_49 rfl (lv_at hl 4 rfl) ?_
          refine W.lcmp hx hb dX2_extremeIn_50 ?_
          refine lv_if_ge (tgt := 67) hx hb dX2_extremeIn_51 (by decide) (fun c9 => ?_) (fun c9 => ?_)
          · have h := of_t h c9
            exact t_X2_extremeIn_67  hF (f_X2_extremeIn_10 n) ih v1 v2 v3 v5 σ4 _ _ _ h hP hS (lv_sub hl [1, 2, 3, 4, 5] rfl)
          · have h := of_f h c9
            refine lv_goto (tgt := 64) hx hb dX2_extremeIn_54 (by decide) ?_
            exact t_X2_extremeIn_64  hF (f_X2_extremeIn_10 n) ih v1 v2 v5 r3 σ4 _ _ _ h hP hS (lv_sub hl [1, 2, 3, 5, 0] rfl)

def f_X2_extremeIn (a1 : Int32) (a2 : Int32) (σ : Sta) : Option (Int64 × Sta) :=
  if a1 < 0 ∨ 100 ≤ (a1.toNatClampNeg) then none else (
  lt (gJ σ 38 (a1.toNatClampNeg)) (fun x2 =>
  f_X2_extremeIn_10 FU a1 a2 x2 0 σ))
set_option maxHeartbeats 4000000 in
set_option maxRecDepth 100000 in
theorem c_X2_extremeIn {l : Launch} {D : va_G} {Y : CYs} {E : Nat → Nat} {a1 : Int32} {a2 : Int32} {σ : Sta} {o : Int64 × Sta} (h : f_X2_extremeIn a1 a2 σ = some o) : ML l yX2_extremeIn (Cond.code yX2_extremeIn cX2_extremeIn 8 (some .long) :: gW) rm_X2_extremeIn LC Y D E [.ref (E 6), .int a1, .int a2] σ o := by
  intro sz
  refine Met_of (Qc := fun sz => QL LC Y D E sz o) (by decide) (Nat.le_of_ble_eq_true rfl) (fun p e s m args below meth c hF hP ls hl => ?_) sz
  have hS : va_S (AF E LC.length s.heap.size) s.heap s.heap [] := va_S.rf
  have hl : lv_has ls 8 [(0, .ref (E 6)), (1, .int a1), (2, .int a2)] := hl
  show WL p l e rm_X2_extremeIn s m args below meth c LC Y D E o s.heap [] (F0 m 0 ls [])
  unfold f_X2_extremeIn at h
  obtain ⟨hC, hb, hml, hr, hlk, hD, hSW⟩ := id hF
  have hx := hC.1
  refine lv_aload_n hx hb dX2_extremeIn_0 rfl (lv_at hl 0 rfl) ?_
  refine gf_X2_9 hC hb hP dX2_extremeIn_1 ?_
  refine lv_iload_n hx hb dX2_extremeIn_4 rfl (lv_at hl 1 rfl) ?_
  obtain ⟨g1, h⟩ := of_gd h
  refine x_lald hC hb hP lc_38 g1 dX2_extremeIn_5 ?_
  refine lv_topl (fun x2 ex2 => ?_)
  have h := of_lt h ex2
  refine lv_lstore_n (lv' := [(3, .long x2), (0, .ref (E 6)), (1, .int a1), (2, .int a2)]) hx hb dX2_extremeIn_6 rfl hl (by decide) rfl (fun ls hl => ?_)
  refine lv_iconst (v := 0) hx hb dX2_extremeIn_7 (by decide) ?_
  refine lv_istore (lv' := [(5, .int 0), (3, .long x2), (0, .ref (E 6)), (1, .int a1), (2, .int a2)]) hx hb dX2_extremeIn_8 hl (by decide) rfl (fun ls hl => ?_)
  exact t_X2_extremeIn_10  hF FU a1 a2 x2 0 σ _ _ _ h hP hS (lv_sub hl [2, 3, 4, 1, 0] rfl)

abbrev rm_X2_extremeChance : Room := { frames := 5, cells := 0, slots := 0, locals := 122 }
def f_X2_extremeChance_14 (k6 : Int32 → Int32 → Int32 → Sta → Option (Int32 × Sta)) : Nat → Int32 → Int32 → Int32 → Int32 → Sta → Option (Int32 × Sta)
  | 0, _, _, _, _, _ => none
  | n + 1, v1, v2, v3, v4, σ => if gI σ 322 ≤ v4 then
      bnd (f_X2_stepOn σ) (fun _ σ3 =>
      lt (v3 + 1) (fun x5 =>
      k6 v1 v2 x5 σ3))
    else
      bnd (f_X2_extremeIn v4 v2 σ) (fun r6 σ7 =>
      if v4 < 0 ∨ 100 ≤ (v4.toNatClampNeg) then none else (
      lt (sJ σ7 39 (vp_updL (gJ σ7 39) (v4.toNatClampNeg) r6)) (fun σ10 =>
      lt (v4 + 1) (fun x11 =>
      f_X2_extremeChance_14 k6 n v1 v2 v3 x11 σ10))))
set_option maxHeartbeats 4000000 in
set_option maxRecDepth 100000 in
theorem t_X2_extremeChance_14 {l : Launch} {D : va_G} {Y : CYs} {E : Nat → Nat} {p : Program} {e : Env} {s : State} {m : MethodId} {args : Array Value} {below : List Frame} {meth : Method} {c : Code} (hF : Fr p s m args meth c RX2 cX2_extremeChance 5 (some .int) D Y E LC) {o : Int32 × Sta} (k6 : Int32 → Int32 → Int32 → Sta → Option (Int32 × Sta)) (hk6 : ∀ (v1 : Int32) (v2 : Int32) (v3 : Int32) (σ : Sta) (H : Heap) (locs : List Loc) (ls : Array Slot), k6 v1 v2 v3 σ = some o → va_P D vwCl (wd Y E σ 0 LC) H → va_S (AF E LC.length s.heap.size) s.heap H locs → lv_has ls 5 [(0, .ref (E 6)), (1, .int v1), (2, .int v2), (3, .int v3)] → WI p l e rm_X2_extremeChance s m args below meth c LC Y D E o H locs (F0 m 6 ls [])) : ∀ (n : Nat) (v1 : Int32) (v2 : Int32) (v3 : Int32) (v4 : Int32) (σ : Sta) (H : Heap) (locs : List Loc) (ls : Array Slot), f_X2_extremeChance_14 k6 n v1 v2 v3 v4 σ = some o → va_P D vwCl (wd Y E σ 0 LC) H → va_S (AF E LC.length s.heap.size) s.heap H locs → lv_has ls 5 [(0, .ref (E 6)), (1, .int v1), (2, .int v2), (3, .int v3), (4, .int v4)] → WI p l e rm_X2_extremeChance s m args below meth c LC Y D E o H locs (F0 m 14 ls []) := by
  intro n
  induction n with
  | zero =>
    intro v1 v2 v3 v4 σ H locs ls h hP hS hl
    exact nomatch (show (none : Option (Int32 × Sta)) = some o from h)
  | succ n ih =>
    intro v1 v2 v3 v4 σ H locs ls h hP hS hl
    rw [f_X2_extremeChance_14] at h
    obtain ⟨hC, hb, hml, hr, hlk, hD, hSW⟩ := id hF
    have hx := hC.1
    refine lv_iload hx hb dX2_extremeChance_14 (lv_at hl 4 rfl) ?_
    refine lv_aload_n hx hb dX2_extremeChance_16 rfl (lv_at hl 0 rfl) ?_
    refine gf_X2_18 hC hb hP dX2_extremeChance_17 ?_
    refine gf_X2_28 hC hb hP dX2_extremeChance_20 ?_
    refine lv_icmp_ge (tgt := 46) hx hb dX2_extremeChance_23 (by decide) (fun c1 => ?_) (fun c1 => ?_)
    · have h := of_t h c1
      refine lv_aload_n hx hb dX2_extremeChance_46 rfl (lv_at hl 0 rfl) ?_
      obtain ⟨r2, σ3, g4, h⟩ := of_bnd h
      refine x_VV (As := []) (rest := []) hF hl hP hS (c_X2_stepOn g4) (cw_X2_67 hC rfl rfl ⟨Nat.le_of_ble_eq_true rfl, Nat.le_of_ble_eq_true rfl⟩) lc_6 rfl rfl rfl (Nat.le_of_ble_eq_true rfl) dX2_extremeChance_47 ⟨Nat.zero_le _, Nat.zero_le _⟩ (fun H locs hP hS => ?_)
      obtain ⟨x5, ex5⟩ : ∃ y : Int32, y = v3 + 1 := ⟨_, rfl⟩
      have h := of_lt h ex5
      refine lv_iinc (v := x5) (lv' := [(3, .int x5), (0, .ref (E 6)), (1, .int v1), (2, .int v2), (4, .int v4)]) hx hb dX2_extremeChance_50 hl (k := 3) rfl (by rw [ex5]; rfl) (by decide) rfl (fun ls hl => ?_)
      refine lv_goto (tgt := 6) hx hb dX2_extremeChance_53 (by decide) ?_
      exact hk6 v1 v2 x5 σ3 _ _ _ h hP hS (lv_sub hl [1, 2, 3, 0] rfl)
    · have h := of_f h c1
      refine lv_aload_n hx hb dX2_extremeChance_26 rfl (lv_at hl 0 rfl) ?_
      refine gf_X2_15 hC hb hP dX2_extremeChance_27 ?_
      refine lv_iload hx hb dX2_extremeChance_30 (lv_at hl 4 rfl) ?_
      refine lv_aload_n hx hb dX2_extremeChance_32 rfl (lv_at hl 0 rfl) ?_
      refine lv_iload hx hb dX2_extremeChance_33 (lv_at hl 4 rfl) ?_
      refine lv_iload_n hx hb dX2_extremeChance_35 rfl (lv_at hl 2 rfl) ?_
      obtain ⟨r6, σ7, g8, h⟩ := of_bnd h
      refine x_VL (As := [.int v4, .int v2]) (rest := [.int v4, .ref (E 39)]) hF hl hP hS (c_X2_extremeIn g8) (cw_X2_63 hC rfl rfl ⟨Nat.le_of_ble_eq_true rfl, Nat.le_of_ble_eq_true rfl⟩) lc_6 rfl rfl rfl (Nat.le_of_ble_eq_true rfl) dX2_extremeChance_36 ⟨Nat.zero_le _, Nat.zero_le _⟩ (fun H locs hP hS => ?_)
      obtain ⟨g9, h⟩ := of_gd h
      refine x_last lokC hC hb hP hD hS lc_39 g9 dX2_extremeChance_39 (fun H locs σ10 eσ10 hP hS => ?_)
      have h := of_lt h eσ10
      obtain ⟨x11, ex11⟩ : ∃ y : Int32, y = v4 + 1 := ⟨_, rfl⟩
      have h := of_lt h ex11
      refine lv_iinc (v := x11) (lv' := [(4, .int x11), (0, .ref (E 6)), (1, .int v1), (2, .int v2), (3, .int v3)]) hx hb dX2_extremeChance_40 hl (k := 4) rfl (by rw [ex11]; rfl) (by decide) rfl (fun ls hl => ?_)
      refine lv_goto (tgt := 14) hx hb dX2_extremeChance_43 (by decide) ?_
      exact ih v1 v2 v3 x11 σ10 _ _ _ h hP hS (lv_sub hl [1, 2, 3, 4, 0] rfl)

def f_X2_extremeChance_6 : Nat → Int32 → Int32 → Int32 → Sta → Option (Int32 × Sta)
  | 0, _, _, _, _ => none
  | n + 1, v1, v2, v3, σ => if v1 < v3 then
      if (0 : Int32) < 0 ∨ 100 ≤ ((0 : Int32).toNatClampNeg) then none else (
      some ((gJ σ 38 ((0 : Int32).toNatClampNeg)).toInt32, σ))
    else
      f_X2_extremeChance_14 (f_X2_extremeChance_6 n) FU v1 v2 v3 0 σ
set_option maxHeartbeats 4000000 in
set_option maxRecDepth 100000 in
theorem t_X2_extremeChance_6 {l : Launch} {D : va_G} {Y : CYs} {E : Nat → Nat} {p : Program} {e : Env} {s : State} {m : MethodId} {args : Array Value} {below : List Frame} {meth : Method} {c : Code} (hF : Fr p s m args meth c RX2 cX2_extremeChance 5 (some .int) D Y E LC) {o : Int32 × Sta} : ∀ (n : Nat) (v1 : Int32) (v2 : Int32) (v3 : Int32) (σ : Sta) (H : Heap) (locs : List Loc) (ls : Array Slot), f_X2_extremeChance_6 n v1 v2 v3 σ = some o → va_P D vwCl (wd Y E σ 0 LC) H → va_S (AF E LC.length s.heap.size) s.heap H locs → lv_has ls 5 [(0, .ref (E 6)), (1, .int v1), (2, .int v2), (3, .int v3)] → WI p l e rm_X2_extremeChance s m args below meth c LC Y D E o H locs (F0 m 6 ls []) := by
  intro n
  induction n with
  | zero =>
    intro v1 v2 v3 σ H locs ls h hP hS hl
    exact nomatch (show (none : Option (Int32 × Sta)) = some o from h)
  | succ n ih =>
    intro v1 v2 v3 σ H locs ls h hP hS hl
    rw [f_X2_extremeChance_6] at h
    obtain ⟨hC, hb, hml, hr, hlk, hD, hSW⟩ := id hF
    have hx := hC.1
    refine lv_iload_n hx hb dX2_extremeChance_6 rfl (lv_at hl 3 rfl) ?_
    refine lv_iload_n hx hb dX2_extremeChance_7 rfl (lv_at hl 1 rfl) ?_
    refine lv_icmp_gt (tgt := 56) hx hb dX2_extremeChance_8 (by decide) (fun c1 => ?_) (fun c1 => ?_)
    · have h := of_t h c1
      refine lv_aload_n hx hb dX2_extremeChance_56 rfl (lv_at hl 0 rfl) ?_
      refine gf_X2_9 hC hb hP dX2_extremeChance_57 ?_
      refine lv_iconst (v := 0) hx hb dX2_extremeChance_60 (by decide) ?_
      obtain ⟨g2, h⟩ := of_gd h
      refine x_lald hC hb hP lc_38 g2 dX2_extremeChance_61 ?_
      refine lv_l2i (v := (gJ σ 38 ((0 : Int32).toNatClampNeg)).toInt32) hx hb dX2_extremeChance_62 rfl ?_
      exact x_iret hF hP hS h dX2_extremeChance_63
    · have h := of_f h c1
      refine lv_iconst (v := 0) hx hb dX2_extremeChance_11 (by decide) ?_
      refine lv_istore (lv' := [(4, .int 0), (0, .ref (E 6)), (1, .int v1), (2, .int v2), (3, .int v3)]) hx hb dX2_extremeChance_12 hl (by decide) rfl (fun ls hl => ?_)
      exact t_X2_extremeChance_14  hF (f_X2_extremeChance_6 n) ih FU v1 v2 v3 0 σ _ _ _ h hP hS (lv_sub hl [1, 2, 3, 4, 0] rfl)

def f_X2_extremeChance (a1 : Int32) (a2 : Int32) (σ : Sta) : Option (Int32 × Sta) :=
  bnd (f_X2_startChances σ) (fun _ σ2 =>
  f_X2_extremeChance_6 FU a1 a2 1 σ2)
set_option maxHeartbeats 4000000 in
set_option maxRecDepth 100000 in
theorem c_X2_extremeChance {l : Launch} {D : va_G} {Y : CYs} {E : Nat → Nat} {a1 : Int32} {a2 : Int32} {σ : Sta} {o : Int32 × Sta} (h : f_X2_extremeChance a1 a2 σ = some o) : MI l yX2_extremeChance (Cond.code yX2_extremeChance cX2_extremeChance 5 (some .int) :: gW) rm_X2_extremeChance LC Y D E [.ref (E 6), .int a1, .int a2] σ o := by
  intro sz
  refine Met_of (Qc := fun sz => QI LC Y D E sz o) (by decide) (Nat.le_of_ble_eq_true rfl) (fun p e s m args below meth c hF hP ls hl => ?_) sz
  have hS : va_S (AF E LC.length s.heap.size) s.heap s.heap [] := va_S.rf
  have hl : lv_has ls 5 [(0, .ref (E 6)), (1, .int a1), (2, .int a2)] := hl
  show WI p l e rm_X2_extremeChance s m args below meth c LC Y D E o s.heap [] (F0 m 0 ls [])
  unfold f_X2_extremeChance at h
  obtain ⟨hC, hb, hml, hr, hlk, hD, hSW⟩ := id hF
  have hx := hC.1
  refine lv_aload_n hx hb dX2_extremeChance_0 rfl (lv_at hl 0 rfl) ?_
  obtain ⟨r1, σ2, g3, h⟩ := of_bnd h
  refine x_VV (As := []) (rest := []) hF hl hP hS (c_X2_startChances g3) (cw_X2_60 hC rfl rfl ⟨Nat.le_of_ble_eq_true rfl, Nat.le_of_ble_eq_true rfl⟩) lc_6 rfl rfl rfl (Nat.le_of_ble_eq_true rfl) dX2_extremeChance_1 ⟨Nat.zero_le _, Nat.zero_le _⟩ (fun H locs hP hS => ?_)
  refine lv_iconst (v := 1) hx hb dX2_extremeChance_4 (by decide) ?_
  refine lv_istore_n (lv' := [(3, .int 1), (0, .ref (E 6)), (1, .int a1), (2, .int a2)]) hx hb dX2_extremeChance_5 rfl hl (by decide) rfl (fun ls hl => ?_)
  exact t_X2_extremeChance_6  hF FU a1 a2 1 σ2 _ _ _ h hP hS (lv_sub hl [1, 2, 3, 0] rfl)

abbrev rm_X3_clear : Room := { frames := 1, cells := 0, slots := 0, locals := 24 }
def f_X3_clear (σ : Sta) : Option (Unit × Sta) :=
  lt (sI σ 450 0) (fun σ1 =>
  bnd (f_J7_fill_d0a16 40 3 0 σ1) (fun _ σ3 =>
  some ((), σ3)))
set_option maxHeartbeats 4000000 in
set_option maxRecDepth 100000 in
theorem c_X3_clear {l : Launch} {D : va_G} {Y : CYs} {E : Nat → Nat} {σ : Sta} {o : Unit × Sta} (h : f_X3_clear σ = some o) : MV l yX3_clear (Cond.code yX3_clear cX3_clear 1 none :: gW) rm_X3_clear LC Y D E [.ref (E 7)] σ o := by
  intro sz
  refine Met_of (Qc := fun sz => QV LC Y D E sz o) (by decide) (Nat.le_of_ble_eq_true rfl) (fun p e s m args below meth c hF hP ls hl => ?_) sz
  have hS : va_S (AF E LC.length s.heap.size) s.heap s.heap [] := va_S.rf
  have hl : lv_has ls 1 [(0, .ref (E 7))] := hl
  show WV p l e rm_X3_clear s m args below meth c LC Y D E o s.heap [] (F0 m 0 ls [])
  unfold f_X3_clear at h
  obtain ⟨hC, hb, hml, hr, hlk, hD, hSW⟩ := id hF
  have hx := hC.1
  refine lv_aload_n hx hb dX3_clear_0 rfl (lv_at hl 0 rfl) ?_
  refine lv_iconst (v := 0) hx hb dX3_clear_1 (by decide) ?_
  refine pf_X3_19 hC hb hP hD hS dX3_clear_2 (fun H locs σ1 eσ1 hP hS => ?_)
  have h := of_lt h eσ1
  refine lv_aload_n hx hb dX3_clear_5 rfl (lv_at hl 0 rfl) ?_
  refine gf_X3_9 hC hb hP dX3_clear_6 ?_
  refine lv_lconst (v := 0) hx hb dX3_clear_9 (by decide) ?_
  obtain ⟨r2, σ3, g4, h⟩ := of_bnd h
  refine x_SV (As := [.ref (E 40), .long 0]) (rest := []) hF hl hP hS (c_J7_fill_d0a16 lokC lc_40 g4) (cw_X3_23 hC rfl rfl ⟨Nat.le_of_ble_eq_true rfl, Nat.le_of_ble_eq_true rfl⟩) rfl rfl (Nat.le_of_ble_eq_true rfl) dX3_clear_10 ⟨Nat.zero_le _, Nat.zero_le _⟩ (fun H locs hP hS => ?_)
  exact x_vret hF hP hS h dX3_clear_13
