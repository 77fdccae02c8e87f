theorem pf_X8_199 {p : Program} {l : Launch} {e : Env} {R : Room} {s : State} {m : MethodId} {args : Array Value} {below : List Frame} {meth : Method} {c : Code} {H : Heap} {locs : List Loc} {cells slots : Nat} {Q : State → Prop} {D : va_G} {Y : CYs} {E : Nat → Nat} {σ : Sta} {cc : ByteArray} {pc : Nat} {ls : Array Slot} {rest : List Value} {A : Nat → Prop} {H0 : Heap} {x : Int32} (hC : Ctx p s m args RX8 D Y) (hb : c.code = cc) (hP : va_P D vwCl (wd Y E σ 0 LC) H) (hD : ∀ τ, va_D A (wd Y E τ 0 LC)) (hS : va_S A H0 H locs) {d : Nat} (hd : d < 13) (hdg : decode cc pc = .ok (.putfield 199, 3)) (kk : ∀ (H1 : Heap) (locs1 : List Loc) (τ : Sta), τ = sI σ (64 * (41 + 5 * d) + 1) x → va_P D vwCl (wd Y E τ 0 LC) H1 → va_S A H0 H1 locs1 → W p l e R s m args below meth c H1 locs1 cells slots Q (F0 m (pc + 3) ls rest)) : W p l e R s m args below meth c H locs cells slots Q (F0 m pc ls (.int x :: .ref (E (41 + 5 * d)) :: rest)) :=
  x_putIN lokC hC hb hP hD hS inGX6 tyX6 tyX6_ok nmX6 (lc_s0 hd) rfl 1 (by decide) rfl (List.mem_of_getElem? (i := 47) rfl) rfl rfl rfl rfl rfl hdg kk
theorem gf_X8_57 {p : Program} {l : Launch} {e : Env} {R : Room} {s : State} {m : MethodId} {args : Array Value} {below : List Frame} {meth : Method} {c : Code} {H : Heap} {locs : List Loc} {cells slots : Nat} {Q : State → Prop} {D : va_G} {Y : CYs} {E : Nat → Nat} {σ : Sta} {cc : ByteArray} {pc : Nat} {ls : Array Slot} {rest : List Value} (hC : Ctx p s m args RX8 D Y) (hb : c.code = cc) (hP : va_P D vwCl (wd Y E σ 0 LC) H) (hdg : decode cc pc = .ok (.getfield 57, 3)) (kk : W p l e R s m args below meth c H locs cells slots Q (F0 m (pc + 3) ls (.ref (E 6) :: rest))) : W p l e R s m args below meth c H locs cells slots Q (F0 m pc ls (.ref (E 0) :: rest)) :=
  x_getR hC hb hP inGX8 lc_0 rfl 7 (by decide) rfl (gw_t (tb2 (List.mem_of_getElem? (i := 89) rfl)) rfl) rfl hdg kk
theorem cw_X8_202 {R : Room} {p : Program} {s : State} {m : MethodId} {args : Array Value} {D : va_G} {Y : CYs} {rm : Room} (hC : Ctx p s m args RX8 D Y) (hrc : rm.cells = 0) (hrs : rm.slots = 0) (hR : rm.frames + 1 ≤ R.frames ∧ 8 + (4 + 11) + rm.locals ≤ R.locals) : CallW R s args RX8 RX2 202 yX2_plan cX2_plan 4 none (Cond.code yX2_plan cX2_plan 4 none :: gW) rm 0 0 1 :=
  cwV 1 hC.2.1 (gi_V (gw_t (tb5 (List.mem_of_getElem? (i := 83) rfl)) rfl) (gw_t (tb5 (List.mem_of_getElem? (i := 84) rfl)) rfl) (gw_t (tb5 (List.mem_of_getElem? (i := 85) rfl)) rfl) (gw_t (tb1 (List.mem_of_getElem? (i := 7) rfl)) rfl) (gw_t (tb5 (List.mem_of_getElem? (i := 86) rfl)) rfl)) rfl hrc hrs ⟨rfl, by decide +kernel, by decide +kernel, by decide +kernel⟩ hR
theorem gf_X8_198 {p : Program} {l : Launch} {e : Env} {R : Room} {s : State} {m : MethodId} {args : Array Value} {below : List Frame} {meth : Method} {c : Code} {H : Heap} {locs : List Loc} {cells slots : Nat} {Q : State → Prop} {D : va_G} {Y : CYs} {E : Nat → Nat} {σ : Sta} {cc : ByteArray} {pc : Nat} {ls : Array Slot} {rest : List Value} (hC : Ctx p s m args RX8 D Y) (hb : c.code = cc) (hP : va_P D vwCl (wd Y E σ 0 LC) H) {d : Nat} (hd : d < 13) (hdg : decode cc pc = .ok (.getfield 198, 3)) (kk : W p l e R s m args below meth c H locs cells slots Q (F0 m (pc + 3) ls (.ref (E (41 + 5 * d + 1)) :: rest))) : W p l e R s m args below meth c H locs cells slots Q (F0 m pc ls (.ref (E (41 + 5 * d)) :: rest)) :=
  x_getRN hC hb hP inGX6 (lc_s0 hd) rfl 0 (by decide) rfl (List.mem_of_getElem? (i := 44) rfl) rfl hdg kk
theorem cw_X8_192 {R : Room} {p : Program} {s : State} {m : MethodId} {args : Array Value} {D : va_G} {Y : CYs} {rm : Room} {mc ms : Nat} (hC : Ctx p s m args RX8 D Y) (hrc : rm.cells = mc) (hrs : rm.slots = ms) (hR : rm.frames + 1 ≤ R.frames ∧ 8 + (1 + 11) + rm.locals ≤ R.locals) : CallW R s args RX8 RX8 192 yX8_checkProgram cX8_checkProgram 1 none (Cond.code yX8_checkProgram cX8_checkProgram 1 none :: gW) rm mc ms 0 :=
  cwV 0 hC.2.1 (gi_V (gw_t (tb5 (List.mem_of_getElem? (i := 73) rfl)) rfl) (gw_t (tb5 (List.mem_of_getElem? (i := 75) rfl)) rfl) (gw_s (q := (⟨"MarkovBench", "checkProgram", "()V"⟩, 14)) (lp3_ (List.mem_of_getElem? (i := 11) rfl))) (gw_t (tb1 (List.mem_of_getElem? (i := 1) rfl)) rfl) (gw_t (tb5 (List.mem_of_getElem? (i := 76) rfl)) rfl)) rfl hrc hrs ⟨rfl, by decide +kernel, by decide +kernel, by decide +kernel⟩ hR
theorem cw_X8_195 {R : Room} {p : Program} {s : State} {m : MethodId} {args : Array Value} {D : va_G} {Y : CYs} {rm : Room} {mc ms : Nat} (hC : Ctx p s m args RX8 D Y) (hrc : rm.cells = mc) (hrs : rm.slots = ms) (hR : rm.frames + 1 ≤ R.frames ∧ 8 + (2 + 11) + rm.locals ≤ R.locals) : CallW R s args RX8 RX8 195 yX8_checkRoom cX8_checkRoom 2 none (Cond.code yX8_checkRoom cX8_checkRoom 2 none :: gW) rm mc ms 1 :=
  cwV 1 hC.2.1 (gi_V (gw_t (tb5 (List.mem_of_getElem? (i := 78) rfl)) rfl) (gw_t (tb5 (List.mem_of_getElem? (i := 80) rfl)) rfl) (gw_s (q := (⟨"MarkovBench", "checkRoom", "(I)V"⟩, 14)) (lp3_ (List.mem_of_getElem? (i := 12) rfl))) (gw_t (tb1 (List.mem_of_getElem? (i := 1) rfl)) rfl) (gw_t (tb5 (List.mem_of_getElem? (i := 81) rfl)) rfl)) rfl hrc hrs ⟨rfl, by decide +kernel, by decide +kernel, by decide +kernel⟩ hR
theorem gf_X8_73 {p : Program} {l : Launch} {e : Env} {R : Room} {s : State} {m : MethodId} {args : Array Value} {below : List Frame} {meth : Method} {c : Code} {H : Heap} {locs : List Loc} {cells slots : Nat} {Q : State → Prop} {D : va_G} {Y : CYs} {E : Nat → Nat} {σ : Sta} {cc : ByteArray} {pc : Nat} {ls : Array Slot} {rest : List Value} (hC : Ctx p s m args RX8 D Y) (hb : c.code = cc) (hP : va_P D vwCl (wd Y E σ 0 LC) H) (hdg : decode cc pc = .ok (.getfield 73, 3)) (kk : W p l e R s m args below meth c H locs cells slots Q (F0 m (pc + 3) ls (.ref (E 10) :: rest))) : W p l e R s m args below meth c H locs cells slots Q (F0 m pc ls (.ref (E 0) :: rest)) :=
  x_getR hC hb hP inGX8 lc_0 rfl 10 (by decide) rfl (gw_t (tb2 (List.mem_of_getElem? (i := 92) rfl)) rfl) rfl hdg kk
theorem cw_X8_206 {R : Room} {p : Program} {s : State} {m : MethodId} {args : Array Value} {D : va_G} {Y : CYs} {rm : Room} {mc ms : Nat} (hC : Ctx p s m args RX8 D Y) (hrc : rm.cells = mc) (hrs : rm.slots = ms) (hR : rm.frames + 1 ≤ R.frames ∧ 8 + (2 + 11) + rm.locals ≤ R.locals) : CallW R s args RX8 RX8 206 yX8_checkStrategy cX8_checkStrategy 2 none (Cond.code yX8_checkStrategy cX8_checkStrategy 2 none :: gW) rm mc ms 1 :=
  cwV 1 hC.2.1 (gi_V (gw_t (tb5 (List.mem_of_getElem? (i := 137) rfl)) rfl) (gw_t (tb5 (List.mem_of_getElem? (i := 139) rfl)) rfl) (gw_s (q := (⟨"MarkovBench", "checkStrategy", "(I)V"⟩, 14)) (lp4_ (List.mem_of_getElem? (i := 4) rfl))) (gw_t (tb1 (List.mem_of_getElem? (i := 1) rfl)) rfl) (gw_t (tb5 (List.mem_of_getElem? (i := 140) rfl)) rfl)) rfl hrc hrs ⟨rfl, by decide +kernel, by decide +kernel, by decide +kernel⟩ hR
theorem gf_X8_199 {p : Program} {l : Launch} {e : Env} {R : Room} {s : State} {m : MethodId} {args : Array Value} {below : List Frame} {meth : Method} {c : Code} {H : Heap} {locs : List Loc} {cells slots : Nat} {Q : State → Prop} {D : va_G} {Y : CYs} {E : Nat → Nat} {σ : Sta} {cc : ByteArray} {pc : Nat} {ls : Array Slot} {rest : List Value} (hC : Ctx p s m args RX8 D Y) (hb : c.code = cc) (hP : va_P D vwCl (wd Y E σ 0 LC) H) {d : Nat} (hd : d < 13) (hdg : decode cc pc = .ok (.getfield 199, 3)) (kk : W p l e R s m args below meth c H locs cells slots Q (F0 m (pc + 3) ls (.int (gI σ (64 * (41 + 5 * d) + 1)) :: rest))) : W p l e R s m args below meth c H locs cells slots Q (F0 m pc ls (.ref (E (41 + 5 * d)) :: rest)) :=
  x_getIN hC hb hP inGX6 (lc_s0 hd) rfl 1 (by decide) rfl (List.mem_of_getElem? (i := 47) rfl) rfl hdg kk
theorem cw_X8_209 {R : Room} {p : Program} {s : State} {m : MethodId} {args : Array Value} {D : va_G} {Y : CYs} {rm : Room} (hC : Ctx p s m args RX8 D Y) (hrc : rm.cells = 0) (hrs : rm.slots = 0) (hR : rm.frames + 1 ≤ R.frames ∧ 8 + (3 + 11) + rm.locals ≤ R.locals) : CallW R s args RX8 RX6 209 yX6_takenIn cX6_takenIn 3 (some .int) (Cond.code yX6_takenIn cX6_takenIn 3 (some .int) :: gW) rm 0 0 2 :=
  cwV 2 hC.2.1 (gi_V (gw_t (tb4 (List.mem_of_getElem? (i := 72) rfl)) rfl) (gw_t (tb4 (List.mem_of_getElem? (i := 73) rfl)) rfl) (gw_t (tb4 (List.mem_of_getElem? (i := 74) rfl)) rfl) (gw_t (tb1 (List.mem_of_getElem? (i := 9) rfl)) rfl) (gw_t (tb4 (List.mem_of_getElem? (i := 75) rfl)) rfl)) rfl hrc hrs ⟨rfl, by decide +kernel, by decide +kernel, by decide +kernel⟩ hR
theorem gf_X8_212 {p : Program} {l : Launch} {e : Env} {R : Room} {s : State} {m : MethodId} {args : Array Value} {below : List Frame} {meth : Method} {c : Code} {H : Heap} {locs : List Loc} {cells slots : Nat} {Q : State → Prop} {D : va_G} {Y : CYs} {E : Nat → Nat} {σ : Sta} {cc : ByteArray} {pc : Nat} {ls : Array Slot} {rest : List Value} (hC : Ctx p s m args RX8 D Y) (hb : c.code = cc) (hP : va_P D vwCl (wd Y E σ 0 LC) H) {d : Nat} (hd : d < 13) (hdg : decode cc pc = .ok (.getfield 212, 3)) (kk : W p l e R s m args below meth c H locs cells slots Q (F0 m (pc + 3) ls (.ref (E (41 + 5 * d + 3)) :: rest))) : W p l e R s m args below meth c H locs cells slots Q (F0 m pc ls (.ref (E (41 + 5 * d)) :: rest)) :=
  x_getRN hC hb hP inGX6 (lc_s0 hd) rfl 3 (by decide) rfl (List.mem_of_getElem? (i := 50) rfl) rfl hdg kk
theorem cw_X8_216 {R : Room} {p : Program} {s : State} {m : MethodId} {args : Array Value} {D : va_G} {Y : CYs} {rm : Room} (hC : Ctx p s m args RX8 D Y) (hrc : rm.cells = 0) (hrs : rm.slots = 0) (hR : rm.frames + 1 ≤ R.frames ∧ 8 + (2 + 11) + rm.locals ≤ R.locals) : CallB R s args RX8 216 yX8_entry_ cX8_entry_ 2 (some .long) (Cond.code yX8_entry_ cX8_entry_ 2 (some .long) :: gW) rm 0 0 2 ∧ (Cond.static yX8_entry_).before args s = true :=
  ⟨callB_of 2 hC.2.1 (gi_law (gw_t (tb5 (List.mem_of_getElem? (i := 43) rfl)) rfl)) rfl hrc hrs (hC.2.1 (Cond.initialized RX8) (gw_t (tb1 (List.mem_of_getElem? (i := 1) rfl)) rfl)) (hC.2.1 (Cond.methodLink RX8 216 yX8_entry_) (gw_t (tb5 (List.mem_of_getElem? (i := 148) rfl)) rfl)) ⟨by decide +kernel, by decide +kernel, by decide +kernel⟩ hR, hC.2.1 (Cond.static yX8_entry_) (gw_t (tb5 (List.mem_of_getElem? (i := 42) rfl)) rfl)⟩
theorem gf_X8_219 {p : Program} {l : Launch} {e : Env} {R : Room} {s : State} {m : MethodId} {args : Array Value} {below : List Frame} {meth : Method} {c : Code} {H : Heap} {locs : List Loc} {cells slots : Nat} {Q : State → Prop} {D : va_G} {Y : CYs} {E : Nat → Nat} {σ : Sta} {cc : ByteArray} {pc : Nat} {ls : Array Slot} {rest : List Value} (hC : Ctx p s m args RX8 D Y) (hb : c.code = cc) (hP : va_P D vwCl (wd Y E σ 0 LC) H) {d : Nat} (hd : d < 13) (hdg : decode cc pc = .ok (.getfield 219, 3)) (kk : W p l e R s m args below meth c H locs cells slots Q (F0 m (pc + 3) ls (.ref (E (41 + 5 * d + 4)) :: rest))) : W p l e R s m args below meth c H locs cells slots Q (F0 m pc ls (.ref (E (41 + 5 * d)) :: rest)) :=
  x_getRN hC hb hP inGX6 (lc_s0 hd) rfl 4 (by decide) rfl (List.mem_of_getElem? (i := 52) rfl) rfl hdg kk
theorem gf_X8_222 {p : Program} {l : Launch} {e : Env} {R : Room} {s : State} {m : MethodId} {args : Array Value} {below : List Frame} {meth : Method} {c : Code} {H : Heap} {locs : List Loc} {cells slots : Nat} {Q : State → Prop} {D : va_G} {Y : CYs} {E : Nat → Nat} {σ : Sta} {cc : ByteArray} {pc : Nat} {ls : Array Slot} {rest : List Value} (hC : Ctx p s m args RX8 D Y) (hb : c.code = cc) (hP : va_P D vwCl (wd Y E σ 0 LC) H) {d : Nat} (hd : d < 13) (hdg : decode cc pc = .ok (.getfield 222, 3)) (kk : W p l e R s m args below meth c H locs cells slots Q (F0 m (pc + 3) ls (.int (gI σ (64 * (41 + 5 * d) + 5)) :: rest))) : W p l e R s m args below meth c H locs cells slots Q (F0 m pc ls (.ref (E (41 + 5 * d)) :: rest)) :=
  x_getIN hC hb hP inGX6 (lc_s0 hd) rfl 5 (by decide) rfl (List.mem_of_getElem? (i := 54) rfl) rfl hdg kk
theorem cw_X8_225 {R : Room} {p : Program} {s : State} {m : MethodId} {args : Array Value} {D : va_G} {Y : CYs} {rm : Room} (hC : Ctx p s m args RX8 D Y) (hrc : rm.cells = 0) (hrs : rm.slots = 0) (hR : rm.frames + 1 ≤ R.frames ∧ 8 + (5 + 11) + rm.locals ≤ R.locals) : CallW R s args RX8 RX8 225 yX8_isBetter cX8_isBetter 5 (some .boolean) (Cond.code yX8_isBetter cX8_isBetter 5 (some .boolean) :: gW) rm 0 0 2 :=
  cwV 2 hC.2.1 (gi_V (gw_t (tb5 (List.mem_of_getElem? (i := 170) rfl)) rfl) (gw_t (tb5 (List.mem_of_getElem? (i := 172) rfl)) rfl) (gw_s (q := (⟨"MarkovBench", "isBetter", "(LMarkovBench$Strategy;LMarkovBench$Strategy;)Z"⟩, 14)) (lp4_ (List.mem_of_getElem? (i := 5) rfl))) (gw_t (tb1 (List.mem_of_getElem? (i := 1) rfl)) rfl) (gw_t (tb5 (List.mem_of_getElem? (i := 173) rfl)) rfl)) rfl hrc hrs ⟨rfl, by decide +kernel, by decide +kernel, by decide +kernel⟩ hR
theorem cw_X8_237 {R : Room} {p : Program} {s : State} {m : MethodId} {args : Array Value} {D : va_G} {Y : CYs} {rm : Room} (hC : Ctx p s m args RX8 D Y) (hrc : rm.cells = 0) (hrs : rm.slots = 0) (hR : rm.frames + 1 ≤ R.frames ∧ 8 + (6 + 11) + rm.locals ≤ R.locals) : CallW R s args RX8 RX8 237 yX8_isBroughtAlready cX8_isBroughtAlready 6 (some .boolean) (Cond.code yX8_isBroughtAlready cX8_isBroughtAlready 6 (some .boolean) :: gW) rm 0 0 2 :=
  cwV 2 hC.2.1 (gi_V (gw_t (tb5 (List.mem_of_getElem? (i := 186) rfl)) rfl) (gw_t (tb5 (List.mem_of_getElem? (i := 188) rfl)) rfl) (gw_s (q := (⟨"MarkovBench", "isBroughtAlready", "(LMarkovBench$Strategy;I)Z"⟩, 14)) (lp4_ (List.mem_of_getElem? (i := 7) rfl))) (gw_t (tb1 (List.mem_of_getElem? (i := 1) rfl)) rfl) (gw_t (tb5 (List.mem_of_getElem? (i := 189) rfl)) rfl)) rfl hrc hrs ⟨rfl, by decide +kernel, by decide +kernel, by decide +kernel⟩ hR
theorem cw_X8_229 {R : Room} {p : Program} {s : State} {m : MethodId} {args : Array Value} {D : va_G} {Y : CYs} {rm : Room} {mc ms : Nat} (hC : Ctx p s m args RX8 D Y) (hrc : rm.cells = mc) (hrs : rm.slots = ms) (hR : rm.frames + 1 ≤ R.frames ∧ 8 + (3 + 11) + rm.locals ≤ R.locals) : CallW R s args RX8 RX8 229 yX8_checkOther cX8_checkOther 3 none (Cond.code yX8_checkOther cX8_checkOther 3 none :: gW) rm mc ms 2 :=
  cwV 2 hC.2.1 (gi_V (gw_t (tb5 (List.mem_of_getElem? (i := 181) rfl)) rfl) (gw_t (tb5 (List.mem_of_getElem? (i := 183) rfl)) rfl) (gw_s (q := (⟨"MarkovBench", "checkOther", "(II)V"⟩, 14)) (lp4_ (List.mem_of_getElem? (i := 6) rfl))) (gw_t (tb1 (List.mem_of_getElem? (i := 1) rfl)) rfl) (gw_t (tb5 (List.mem_of_getElem? (i := 184) rfl)) rfl)) rfl hrc hrs ⟨rfl, by decide +kernel, by decide +kernel, by decide +kernel⟩ hR
theorem cw_X8_241 {R : Room} {p : Program} {s : State} {m : MethodId} {args : Array Value} {D : va_G} {Y : CYs} {rm : Room} (hC : Ctx p s m args RX8 D Y) (hrc : rm.cells = 0) (hrs : rm.slots = 0) (hR : rm.frames + 1 ≤ R.frames ∧ 8 + (9 + 11) + rm.locals ≤ R.locals) : CallW R s args RX8 RX8 241 yX8_mixed cX8_mixed 9 (some .long) (Cond.code yX8_mixed cX8_mixed 9 (some .long) :: gW) rm 0 0 4 :=
  cwV 4 hC.2.1 (gi_V (gw_t (tb5 (List.mem_of_getElem? (i := 197) rfl)) rfl) (gw_t (tb5 (List.mem_of_getElem? (i := 199) rfl)) rfl) (gw_s (q := (⟨"MarkovBench", "mixed", "(IIII)J"⟩, 14)) (lp4_ (List.mem_of_getElem? (i := 8) rfl))) (gw_t (tb1 (List.mem_of_getElem? (i := 1) rfl)) rfl) (gw_t (tb5 (List.mem_of_getElem? (i := 200) rfl)) rfl)) rfl hrc hrs ⟨rfl, by decide +kernel, by decide +kernel, by decide +kernel⟩ hR
theorem cw_X8_246 {R : Room} {p : Program} {s : State} {m : MethodId} {args : Array Value} {D : va_G} {Y : CYs} {rm : Room} (hC : Ctx p s m args RX8 D Y) (hrc : rm.cells = 0) (hrs : rm.slots = 0) (hR : rm.frames + 1 ≤ R.frames ∧ 8 + (5 + 11) + rm.locals ≤ R.locals) : CallW R s args RX8 RX2 246 yX2_extremeChance cX2_extremeChance 5 (some .int) (Cond.code yX2_extremeChance cX2_extremeChance 5 (some .int) :: gW) rm 0 0 2 :=
  cwV 2 hC.2.1 (gi_V (gw_t (tb5 (List.mem_of_getElem? (i := 224) rfl)) rfl) (gw_t (tb5 (List.mem_of_getElem? (i := 225) rfl)) rfl) (gw_t (tb5 (List.mem_of_getElem? (i := 226) rfl)) rfl) (gw_t (tb1 (List.mem_of_getElem? (i := 7) rfl)) rfl) (gw_t (tb5 (List.mem_of_getElem? (i := 227) rfl)) rfl)) rfl hrc hrs ⟨rfl, by decide +kernel, by decide +kernel, by decide +kernel⟩ hR
theorem gf_X8_250 {p : Program} {l : Launch} {e : Env} {R : Room} {s : State} {m : MethodId} {args : Array Value} {below : List Frame} {meth : Method} {c : Code} {H : Heap} {locs : List Loc} {cells slots : Nat} {Q : State → Prop} {D : va_G} {Y : CYs} {E : Nat → Nat} {σ : Sta} {cc : ByteArray} {pc : Nat} {ls : Array Slot} {rest : List Value} (hC : Ctx p s m args RX8 D Y) (hb : c.code = cc) (hP : va_P D vwCl (wd Y E σ 0 LC) H) (hdg : decode cc pc = .ok (.getfield 250, 3)) (kk : W p l e R s m args below meth c H locs cells slots Q (F0 m (pc + 3) ls (.long (gL σ 449) :: rest))) : W p l e R s m args below meth c H locs cells slots Q (F0 m pc ls (.ref (E 7) :: rest)) :=
  x_getLN hC hb hP inGX3 lc_7 rfl 1 (by decide) rfl (List.mem_of_getElem? (i := 39) rfl) rfl hdg kk
theorem pf_X8_250 {p : Program} {l : Launch} {e : Env} {R : Room} {s : State} {m : MethodId} {args : Array Value} {below : List Frame} {meth : Method} {c : Code} {H : Heap} {locs : List Loc} {cells slots : Nat} {Q : State → Prop} {D : va_G} {Y : CYs} {E : Nat → Nat} {σ : Sta} {cc : ByteArray} {pc : Nat} {ls : Array Slot} {rest : List Value} {A : Nat → Prop} {H0 : Heap} {x : Int64} (hC : Ctx p s m args RX8 D Y) (hb : c.code = cc) (hP : va_P D vwCl (wd Y E σ 0 LC) H) (hD : ∀ τ, va_D A (wd Y E τ 0 LC)) (hS : va_S A H0 H locs) (hdg : decode cc pc = .ok (.putfield 250, 3)) (kk : ∀ (H1 : Heap) (locs1 : List Loc) (τ : Sta), τ = sL σ 449 x → va_P D vwCl (wd Y E τ 0 LC) H1 → va_S A H0 H1 locs1 → W p l e R s m args below meth c H1 locs1 cells slots Q (F0 m (pc + 3) ls rest)) : W p l e R s m args below meth c H locs cells slots Q (F0 m pc ls (.long x :: .ref (E 7) :: rest)) :=
  x_putLN lokC hC hb hP hD hS inGX3 tyX3 tyX3_ok nmX3 lc_7 rfl 1 (by decide) rfl (List.mem_of_getElem? (i := 39) rfl) rfl rfl rfl hdg kk
theorem cw_X8_253 {R : Room} {p : Program} {s : State} {m : MethodId} {args : Array Value} {D : va_G} {Y : CYs} {rm : Room} (hC : Ctx p s m args RX8 D Y) (hrc : rm.cells = 0) (hrs : rm.slots = 0) (hR : rm.frames + 1 ≤ R.frames ∧ 8 + (6 + 11) + rm.locals ≤ R.locals) : CallW R s args RX8 RX3 253 yX3_playOnce cX3_playOnce 6 (some .int) (Cond.code yX3_playOnce cX3_playOnce 6 (some .int) :: gW) rm 0 0 1 :=
  cwV 1 hC.2.1 (gi_V (gw_t (tb5 (List.mem_of_getElem? (i := 239) rfl)) rfl) (gw_t (tb6 (List.mem_of_getElem? (i := 0) rfl)) rfl) (gw_t (tb6 (List.mem_of_getElem? (i := 1) rfl)) rfl) (gw_t (tb1 (List.mem_of_getElem? (i := 8) rfl)) rfl) (gw_t (tb6 (List.mem_of_getElem? (i := 2) rfl)) rfl)) rfl hrc hrs ⟨rfl, by decide +kernel, by decide +kernel, by decide +kernel⟩ hR
theorem gf_X8_258 {p : Program} {l : Launch} {e : Env} {R : Room} {s : State} {m : MethodId} {args : Array Value} {below : List Frame} {meth : Method} {c : Code} {H : Heap} {locs : List Loc} {cells slots : Nat} {Q : State → Prop} {D : va_G} {Y : CYs} {E : Nat → Nat} {σ : Sta} {cc : ByteArray} {pc : Nat} {ls : Array Slot} {rest : List Value} (hC : Ctx p s m args RX8 D Y) (hb : c.code = cc) (hP : va_P D vwCl (wd Y E σ 0 LC) H) (hdg : decode cc pc = .ok (.getfield 258, 3)) (kk : W p l e R s m args below meth c H locs cells slots Q (F0 m (pc + 3) ls (.ref (E 40) :: rest))) : W p l e R s m args below meth c H locs cells slots Q (F0 m pc ls (.ref (E 7) :: rest)) :=
  x_getRN hC hb hP inGX3 lc_7 rfl 3 (by decide) rfl (List.mem_of_getElem? (i := 41) rfl) rfl hdg kk
theorem gf_X8_257 {p : Program} {l : Launch} {e : Env} {R : Room} {s : State} {m : MethodId} {args : Array Value} {below : List Frame} {meth : Method} {c : Code} {H : Heap} {locs : List Loc} {cells slots : Nat} {Q : State → Prop} {D : va_G} {Y : CYs} {E : Nat → Nat} {σ : Sta} {cc : ByteArray} {pc : Nat} {ls : Array Slot} {rest : List Value} (hC : Ctx p s m args RX8 D Y) (hb : c.code = cc) (hP : va_P D vwCl (wd Y E σ 0 LC) H) (hdg : decode cc pc = .ok (.getfield 257, 3)) (kk : W p l e R s m args below meth c H locs cells slots Q (F0 m (pc + 3) ls (.int (gI σ 450) :: rest))) : W p l e R s m args below meth c H locs cells slots Q (F0 m pc ls (.ref (E 7) :: rest)) :=
  x_getIN hC hb hP inGX3 lc_7 rfl 2 (by decide) rfl (List.mem_of_getElem? (i := 40) rfl) rfl hdg kk
theorem cw_X8_265 {R : Room} {p : Program} {s : State} {m : MethodId} {args : Array Value} {D : va_G} {Y : CYs} {rm : Room} (hC : Ctx p s m args RX8 D Y) (hrc : rm.cells = 0) (hrs : rm.slots = 0) (hR : rm.frames + 1 ≤ R.frames ∧ 8 + (7 + 11) + rm.locals ≤ R.locals) : CallW R s args RX8 RX5 265 yX5_addToDigest cX5_addToDigest 7 (some .long) (Cond.code yX5_addToDigest cX5_addToDigest 7 (some .long) :: gW) rm 0 0 1 :=
  cwV 1 hC.2.1 (gi_V (gw_t (tb4 (List.mem_of_getElem? (i := 63) rfl)) rfl) (gw_t (tb4 (List.mem_of_getElem? (i := 64) rfl)) rfl) (gw_t (tb4 (List.mem_of_getElem? (i := 65) rfl)) rfl) (gw_t (tb1 (List.mem_of_getElem? (i := 6) rfl)) rfl) (gw_t (tb4 (List.mem_of_getElem? (i := 66) rfl)) rfl)) rfl hrc hrs ⟨rfl, by decide +kernel, by decide +kernel, by decide +kernel⟩ hR
theorem cw_X8_269 {R : Room} {p : Program} {s : State} {m : MethodId} {args : Array Value} {D : va_G} {Y : CYs} {rm : Room} (hC : Ctx p s m args RX8 D Y) (hrc : rm.cells = 0) (hrs : rm.slots = 0) (hR : rm.frames + 1 ≤ R.frames ∧ 8 + (8 + 11) + rm.locals ≤ R.locals) : CallW R s args RX8 RX8 269 yX8_digestOfStrategies cX8_digestOfStrategies 8 (some .long) (Cond.code yX8_digestOfStrategies cX8_digestOfStrategies 8 (some .long) :: gW) rm 0 0 1 :=
  cwV 1 hC.2.1 (gi_V (gw_t (tb4 (List.mem_of_getElem? (i := 68) rfl)) rfl) (gw_t (tb4 (List.mem_of_getElem? (i := 70) rfl)) rfl) (gw_s (q := (⟨"MarkovBench", "digestOfStrategies", "(J)J"⟩, 14)) (lp3_ (List.mem_of_getElem? (i := 3) rfl))) (gw_t (tb1 (List.mem_of_getElem? (i := 1) rfl)) rfl) (gw_t (tb4 (List.mem_of_getElem? (i := 71) rfl)) rfl)) rfl hrc hrs ⟨rfl, by decide +kernel, by decide +kernel, by decide +kernel⟩ hR
def f_X8_solve_32 : Nat → Int32 → Nat → Int32 → Sta → Option ((Int32 ⊕ String) × Sta)
  | 0, _, _, _, _ => none
  | n + 1, v1, dv2, v3, σ => if 3 ≤ v3 then
      lt (sI σ (64 * (41 + 5 * dv2) + 1) v1) (fun σ2 =>
      bnd (f_X2_plan dv2 σ2) (fun _ σ4 =>
      lt (sI σ4 11 ((gI σ4 11) + 1)) (fun σ6 =>
      some (.inl ((gI σ6 11) - 1), σ6))))
    else
      if v3 < 0 ∨ 3 ≤ (v3.toNatClampNeg) then none else (
      if v3 < 0 ∨ 3 ≤ (v3.toNatClampNeg) then none else (
      lt (sA σ (41 + 5 * dv2 + 1) (upd (gA σ (41 + 5 * dv2 + 1)) (v3.toNatClampNeg) (gA σ 9 (v3.toNatClampNeg)))) (fun σ9 =>
      lt (v3 + 1) (fun x10 =>
      f_X8_solve_32 n v1 dv2 x10 σ9))))
set_option maxHeartbeats 4000000 in
set_option maxRecDepth 100000 in
theorem t_X8_solve_32 {l : Launch} {D : va_G} {Y : CYs} {E : Nat → Nat} {p : Program} {e : Env} {s : State} {m : MethodId} {args : Array Value} {below : List Frame} {meth : Method} {c : Code} (hF : Fr p s m args meth c RX8 cX8_solve 4 (some .int) D Y E LC) {o : (Int32 ⊕ String) × Sta} (ht : l.stackTraces = false) (htab : ∀ X u, o = (.inr X, u) → ∀ x ∈ c.exceptionTable.toList, False) : ∀ (n : Nat) (v1 : Int32) (dv2 : Nat) (v3 : Int32) (σ : Sta) (H : Heap) (locs : List Loc) (ls : Array Slot), dv2 < 13 → f_X8_solve_32 n v1 dv2 v3 σ = some o → va_P D vwCl (wd Y E σ 0 LC) H → va_S (AF E LC.length s.heap.size) s.heap H locs → lv_has ls 4 [(0, .ref (E 0)), (1, .int v1), (2, .ref (E (41 + 5 * dv2))), (3, .int v3)] → W p l e (rmx 7 147 o) s m args below meth c H locs 0 0 (QmI below args s LC Y D E o) (F0 m 32 ls []) := by
  intro n
  induction n with
  | zero =>
    intro v1 dv2 v3 σ H locs ls hdv2 h hP hS hl
    exact nomatch (show (none : Option ((Int32 ⊕ String) × Sta)) = some o from h)
  | succ n ih =>
    intro v1 dv2 v3 σ H locs ls hdv2 h hP hS hl
    rw [f_X8_solve_32] at h
    obtain ⟨hC, hb, hml, hr, hlk, hD, hSW⟩ := id hF
    have hx := hC.1
    refine lv_iload_n hx hb dX8_solve_32 rfl (lv_at hl 3 rfl) ?_
    refine lv_iconst (v := 3) hx hb dX8_solve_33 (by decide) ?_
    refine lv_icmp_ge (tgt := 55) hx hb dX8_solve_34 (by decide) (fun c1 => ?_) (fun c1 => ?_)
    · have h := of_t h c1
      refine lv_aload_n hx hb dX8_solve_55 rfl (lv_at hl 2 rfl) ?_
      refine lv_iload_n hx hb dX8_solve_56 rfl (lv_at hl 1 rfl) ?_
      refine pf_X8_199 hC hb hP hD hS hdv2 dX8_solve_57 (fun H locs σ2 eσ2 hP hS => ?_)
      have h := of_lt h eσ2
      refine lv_aload_n hx hb dX8_solve_60 rfl (lv_at hl 0 rfl) ?_
      refine gf_X8_57 hC hb hP dX8_solve_61 ?_
      refine lv_aload_n hx hb dX8_solve_64 rfl (lv_at hl 2 rfl) ?_
      obtain ⟨r3, σ4, g5, h⟩ := of_bnd h
      refine x_VV (As := [.ref (E (41 + 5 * dv2))]) (rest := []) hF hl hP hS (c_X2_plan hdv2 g5) (cw_X8_202 hC rfl rfl ⟨Nat.le_of_ble_eq_true rfl, Nat.le_of_ble_eq_true rfl⟩) lc_6 rfl rfl rfl (Nat.le_of_ble_eq_true rfl) dX8_solve_65 ⟨Nat.zero_le _, Nat.zero_le _⟩ (fun H locs hP hS => ?_)
      refine lv_aload_n hx hb dX8_solve_68 rfl (lv_at hl 0 rfl) ?_
      refine lv_dup hx hb dX8_solve_69 rfl ?_
      refine gf_X8_132 hC hb hP dX8_solve_70 ?_
      refine lv_iconst (v := 1) hx hb dX8_solve_73 (by decide) ?_
      refine lv_iadd hx hb dX8_solve_74 ?_
      refine pf_X8_132 hC hb hP hD hS dX8_solve_75 (fun H locs σ6 eσ6 hP hS => ?_)
      have h := of_lt h eσ6
      refine lv_aload_n hx hb dX8_solve_78 rfl (lv_at hl 0 rfl) ?_
      refine gf_X8_132 hC hb hP dX8_solve_79 ?_
      refine lv_iconst (v := 1) hx hb dX8_solve_82 (by decide) ?_
      refine lv_isub hx hb dX8_solve_83 ?_
      exact x_iretX hF hP hS h dX8_solve_84
    · have h := of_f h c1
      refine lv_aload_n hx hb dX8_solve_37 rfl (lv_at hl 2 rfl) ?_
      refine gf_X8_198 hC hb hP hdv2 dX8_solve_38 ?_
      refine lv_iload_n hx hb dX8_solve_41 rfl (lv_at hl 3 rfl) ?_
      refine lv_aload_n hx hb dX8_solve_42 rfl (lv_at hl 0 rfl) ?_
      refine gf_X8_68 hC hb hP dX8_solve_43 ?_
      refine lv_iload_n hx hb dX8_solve_46 rfl (lv_at hl 3 rfl) ?_
      obtain ⟨g7, h⟩ := of_gd h
      refine x_iald hC hb hP lc_9 g7 dX8_solve_47 ?_
      obtain ⟨g8, h⟩ := of_gd h
      refine x_iast lokC hC hb hP hD hS (lc_s1 hdv2) g8 dX8_solve_48 (fun H locs σ9 eσ9 hP hS => ?_)
      have h := of_lt h eσ9
      obtain ⟨x10, ex10⟩ : ∃ y : Int32, y = v3 + 1 := ⟨_, rfl⟩
      have h := of_lt h ex10
      refine lv_iinc (v := x10) (lv' := [(3, .int x10), (0, .ref (E 0)), (1, .int v1), (2, .ref (E (41 + 5 * dv2)))]) hx hb dX8_solve_49 hl (k := 3) rfl (by rw [ex10]; rfl) (by decide) rfl (fun ls hl => ?_)
      refine lv_goto (tgt := 32) hx hb dX8_solve_52 (by decide) ?_
      exact ih v1 dv2 x10 σ9 _ _ _ hdv2 h hP hS (lv_sub hl [1, 2, 3, 0] rfl)

def f_X8_solve (a1 : Int32) (σ : Sta) : Option ((Int32 ⊕ String) × Sta) :=
  bnx (f_X8_checkRange a1 1 30 σ) (fun _ σ2 =>
  bnx (f_X8_checkProgram σ2) (fun _ σ5 =>
  bnx (f_X8_checkRoom (gI σ5 11) σ5) (fun _ σ8 =>
  if gI σ8 11 < 0 ∨ 13 ≤ ((gI σ8 11).toNatClampNeg) then none else (
  if 13 ≤ gP σ8 ((gI σ8 11).toNatClampNeg) then none else (
  lt (gP σ8 ((gI σ8 11).toNatClampNeg)) (fun d12 =>
  f_X8_solve_32 FU a1 d12 0 σ8))))))
set_option maxHeartbeats 4000000 in
set_option maxRecDepth 100000 in
theorem c_X8_solve {l : Launch} {D : va_G} {Y : CYs} {E : Nat → Nat} {a1 : Int32} (ht : l.stackTraces = false) {σ : Sta} {o : (Int32 ⊕ String) × Sta} (h : f_X8_solve a1 σ = some o) : MXI l yX8_solve (Cond.code yX8_solve cX8_solve 4 (some .int) :: gW) 7 147 LC Y D E [.ref (E 0), .int a1] σ o := by
  refine Met_ofXI (by decide) (Nat.le_of_ble_eq_true rfl) (fun p e s m args below meth c hF hP htab ls hl => ?_)
  have hS : va_S (AF E LC.length s.heap.size) s.heap s.heap [] := va_S.rf
  have hl : lv_has ls 4 [(0, .ref (E 0)), (1, .int a1)] := hl
  show W p l e (rmx 7 147 o) s m args below meth c s.heap [] 0 0 (QmI below args s LC Y D E o) (F0 m 0 ls [])
  unfold f_X8_solve at h
  obtain ⟨hC, hb, hml, hr, hlk, hD, hSW⟩ := id hF
  have hx := hC.1
  refine lv_aload_n hx hb dX8_solve_0 rfl (lv_at hl 0 rfl) ?_
  refine lv_iload_n hx hb dX8_solve_1 rfl (lv_at hl 1 rfl) ?_
  refine lv_iconst (v := 1) hx hb dX8_solve_2 (by decide) ?_
  refine lv_bipush (v := 30) hx hb dX8_solve_3 (by decide) ?_
  rcases of_bnx h with ⟨r1, σ2, g3, h⟩ | ⟨X, σ2, g3, rfl⟩
  rotate_left
  · exact x_VT (As := [.int a1, .int 1, .int 30]) (rest := []) hF hl hP hS (c_X8_checkRange ht g3) (cw_X8_96 hC rfl rfl ⟨Nat.le_of_ble_eq_true rfl, Nat.le_of_ble_eq_true rfl⟩) lc_0 rfl rfl rfl (Nat.le_of_ble_eq_true rfl) dX8_solve_5 ⟨Nat.le_refl _, Nat.le_refl _⟩ (htab _ _ rfl)
  refine x_VV (As := [.int a1, .int 1, .int 30]) (rest := []) hF hl hP hS (c_X8_checkRange ht g3) (cw_X8_96 hC rfl rfl ⟨Nat.le_of_ble_eq_true rfl, Nat.le_of_ble_eq_true rfl⟩) lc_0 rfl rfl rfl (Nat.le_of_ble_eq_true rfl) dX8_solve_5 ⟨Nat.zero_le _, Nat.zero_le _⟩ (fun H locs hP hS => ?_)
  refine lv_aload_n hx hb dX8_solve_8 rfl (lv_at hl 0 rfl) ?_
  rcases of_bnx h with ⟨r4, σ5, g6, h⟩ | ⟨X, σ5, g6, rfl⟩
  rotate_left
  · exact x_VT (As := []) (rest := []) hF hl hP hS (c_X8_checkProgram ht g6) (cw_X8_192 hC rfl rfl ⟨Nat.le_of_ble_eq_true rfl, Nat.le_of_ble_eq_true rfl⟩) lc_0 rfl rfl rfl (Nat.le_of_ble_eq_true rfl) dX8_solve_9 ⟨Nat.le_refl _, Nat.le_refl _⟩ (htab _ _ rfl)
  refine x_VV (As := []) (rest := []) hF hl hP hS (c_X8_checkProgram ht g6) (cw_X8_192 hC rfl rfl ⟨Nat.le_of_ble_eq_true rfl, Nat.le_of_ble_eq_true rfl⟩) lc_0 rfl rfl rfl (Nat.le_of_ble_eq_true rfl) dX8_solve_9 ⟨Nat.zero_le _, Nat.zero_le _⟩ (fun H locs hP hS => ?_)
  refine lv_aload_n hx hb dX8_solve_12 rfl (lv_at hl 0 rfl) ?_
  refine lv_aload_n hx hb dX8_solve_13 rfl (lv_at hl 0 rfl) ?_
  refine gf_X8_132 hC hb hP dX8_solve_14 ?_
  rcases of_bnx h with ⟨r7, σ8, g9, h⟩ | ⟨X, σ8, g9, rfl⟩
  rotate_left
  · exact x_VT (As := [.int (gI σ5 11)]) (rest := []) hF hl hP hS (c_X8_checkRoom ht g9) (cw_X8_195 hC rfl rfl ⟨Nat.le_of_ble_eq_true rfl, Nat.le_of_ble_eq_true rfl⟩) lc_0 rfl rfl rfl (Nat.le_of_ble_eq_true rfl) dX8_solve_17 ⟨Nat.le_refl _, Nat.le_refl _⟩ (htab _ _ rfl)
  refine x_VV (As := [.int (gI σ5 11)]) (rest := []) hF hl hP hS (c_X8_checkRoom ht g9) (cw_X8_195 hC rfl rfl ⟨Nat.le_of_ble_eq_true rfl, Nat.le_of_ble_eq_true rfl⟩) lc_0 rfl rfl rfl (Nat.le_of_ble_eq_true rfl) dX8_solve_17 ⟨Nat.zero_le _, Nat.zero_le _⟩ (fun H locs hP hS => ?_)
  refine lv_aload_n hx hb dX8_solve_20 rfl (lv_at hl 0 rfl) ?_
  refine gf_X8_73 hC hb hP dX8_solve_21 ?_
  refine lv_aload_n hx hb dX8_solve_24 rfl (lv_at hl 0 rfl) ?_
  refine gf_X8_132 hC hb hP dX8_solve_25 ?_
  obtain ⟨g10, h⟩ := of_gd h
  obtain ⟨g11, h⟩ := of_gd h
  refine x_aald hC hb hP lc_10 g10 dX8_solve_28 (fun d12 ed12 => ?_)
  have h := of_lt h ed12
  have hd12 : d12 < 13 := by rw [ed12]; exact Nat.lt_of_not_le g11
  refine lv_astore_n (lv' := [(2, .ref (E (41 + 5 * d12))), (0, .ref (E 0)), (1, .int a1)]) hx hb dX8_solve_29 rfl hl (by decide) rfl (fun ls hl => ?_)
  refine lv_iconst (v := 0) hx hb dX8_solve_30 (by decide) ?_
  refine lv_istore_n (lv' := [(3, .int 0), (2, .ref (E (41 + 5 * d12))), (0, .ref (E 0)), (1, .int a1)]) hx hb dX8_solve_31 rfl hl (by decide) rfl (fun ls hl => ?_)
  exact t_X8_solve_32  hF ht htab FU a1 d12 0 σ8 _ _ _ hd12 h hP hS (lv_sub hl [2, 3, 1, 0] rfl)

def f_X8_checkStrategy (a1 : Int32) (σ : Sta) : Option ((Unit ⊕ String) × Sta) :=
  bnx (f_X8_checkIndex a1 (gI σ 11) σ) (fun _ σ2 =>
  some (.inl (), σ2))
set_option maxHeartbeats 4000000 in
set_option maxRecDepth 100000 in
theorem c_X8_checkStrategy {l : Launch} {D : va_G} {Y : CYs} {E : Nat → Nat} {a1 : Int32} (ht : l.stackTraces = false) {σ : Sta} {o : (Unit ⊕ String) × Sta} (h : f_X8_checkStrategy a1 σ = some o) : MXV l yX8_checkStrategy (Cond.code yX8_checkStrategy cX8_checkStrategy 2 none :: gW) 7 104 LC Y D E [.ref (E 0), .int a1] σ o := by
  refine Met_ofXV (by decide) (Nat.le_of_ble_eq_true rfl) (fun p e s m args below meth c hF hP htab ls hl => ?_)
  have hS : va_S (AF E LC.length s.heap.size) s.heap s.heap [] := va_S.rf
  have hl : lv_has ls 2 [(0, .ref (E 0)), (1, .int a1)] := hl
  show W p l e (rmx 7 104 o) s m args below meth c s.heap [] 0 0 (QmV below args s LC Y D E o) (F0 m 0 ls [])
  unfold f_X8_checkStrategy at h
  obtain ⟨hC, hb, hml, hr, hlk, hD, hSW⟩ := id hF
  have hx := hC.1
  refine lv_aload_n hx hb dX8_checkStrategy_0 rfl (lv_at hl 0 rfl) ?_
  refine lv_iload_n hx hb dX8_checkStrategy_1 rfl (lv_at hl 1 rfl) ?_
  refine lv_aload_n hx hb dX8_checkStrategy_2 rfl (lv_at hl 0 rfl) ?_
  refine gf_X8_132 hC hb hP dX8_checkStrategy_3 ?_
  rcases of_bnx h with ⟨r1, σ2, g3, h⟩ | ⟨X, σ2, g3, rfl⟩
  rotate_left
  · exact x_VT (As := [.int a1, .int (gI σ 11)]) (rest := []) hF hl hP hS (c_X8_checkIndex ht g3) (cw_X8_157 hC rfl rfl ⟨Nat.le_of_ble_eq_true rfl, Nat.le_of_ble_eq_true rfl⟩) lc_0 rfl rfl rfl (Nat.le_of_ble_eq_true rfl) dX8_checkStrategy_6 ⟨Nat.le_refl _, Nat.le_refl _⟩ (htab _ _ rfl)
  refine x_VV (As := [.int a1, .int (gI σ 11)]) (rest := []) hF hl hP hS (c_X8_checkIndex ht g3) (cw_X8_157 hC rfl rfl ⟨Nat.le_of_ble_eq_true rfl, Nat.le_of_ble_eq_true rfl⟩) lc_0 rfl rfl rfl (Nat.le_of_ble_eq_true rfl) dX8_checkStrategy_6 ⟨Nat.zero_le _, Nat.zero_le _⟩ (fun H locs hP hS => ?_)
  exact x_vretX hF hP hS h dX8_checkStrategy_9

def f_X8_takes (a1 : Int32) (a2 : Int32) (a3 : Int32) (σ : Sta) : Option ((Int32 ⊕ String) × Sta) :=
  bnx (f_X8_checkStrategy a1 σ) (fun _ σ2 =>
  bnx (f_X8_checkState a2 σ2) (fun _ σ5 =>
  if a1 < 0 ∨ 13 ≤ (a1.toNatClampNeg) then none else (
  if 13 ≤ gP σ5 (a1.toNatClampNeg) then none else (
  lt (gP σ5 (a1.toNatClampNeg)) (fun d9 =>
  bnx (f_X8_checkRange a3 1 (gI σ5 (64 * (41 + 5 * d9) + 1)) σ5) (fun _ σ11 =>
  bnd (f_X6_takenIn d9 a2 a3 σ11) (fun r13 σ14 =>
  some (.inl r13, σ14))))))))
set_option maxHeartbeats 4000000 in
set_option maxRecDepth 100000 in
theorem c_X8_takes {l : Launch} {D : va_G} {Y : CYs} {E : Nat → Nat} {a1 : Int32} {a2 : Int32} {a3 : Int32} (ht : l.stackTraces = false) {σ : Sta} {o : (Int32 ⊕ String) × Sta} (h : f_X8_takes a1 a2 a3 σ = some o) : MXI l yX8_takes (Cond.code yX8_takes cX8_takes 5 (some .int) :: gW) 8 125 LC Y D E [.ref (E 0), .int a1, .int a2, .int a3] σ o := by
  refine Met_ofXI (by decide) (Nat.le_of_ble_eq_true rfl) (fun p e s m args below meth c hF hP htab ls hl => ?_)
  have hS : va_S (AF E LC.length s.heap.size) s.heap s.heap [] := va_S.rf
  have hl : lv_has ls 5 [(0, .ref (E 0)), (1, .int a1), (2, .int a2), (3, .int a3)] := hl
  show W p l e (rmx 8 125 o) s m args below meth c s.heap [] 0 0 (QmI below args s LC Y D E o) (F0 m 0 ls [])
  unfold f_X8_takes at h
  obtain ⟨hC, hb, hml, hr, hlk, hD, hSW⟩ := id hF
  have hx := hC.1
  refine lv_aload_n hx hb dX8_takes_0 rfl (lv_at hl 0 rfl) ?_
  refine lv_iload_n hx hb dX8_takes_1 rfl (lv_at hl 1 rfl) ?_
  rcases of_bnx h with ⟨r1, σ2, g3, h⟩ | ⟨X, σ2, g3, rfl⟩
  rotate_left
  · exact x_VT (As := [.int a1]) (rest := []) hF hl hP hS (c_X8_checkStrategy ht g3) (cw_X8_206 hC rfl rfl ⟨Nat.le_of_ble_eq_true rfl, Nat.le_of_ble_eq_true rfl⟩) lc_0 rfl rfl rfl (Nat.le_of_ble_eq_true rfl) dX8_takes_2 ⟨Nat.le_refl _, Nat.le_refl _⟩ (htab _ _ rfl)
  refine x_VV (As := [.int a1]) (rest := []) hF hl hP hS (c_X8_checkStrategy ht g3) (cw_X8_206 hC rfl rfl ⟨Nat.le_of_ble_eq_true rfl, Nat.le_of_ble_eq_true rfl⟩) lc_0 rfl rfl rfl (Nat.le_of_ble_eq_true rfl) dX8_takes_2 ⟨Nat.zero_le _, Nat.zero_le _⟩ (fun H locs hP hS => ?_)
  refine lv_aload_n hx hb dX8_takes_5 rfl (lv_at hl 0 rfl) ?_
  refine lv_iload_n hx hb dX8_takes_6 rfl (lv_at hl 2 rfl) ?_
  rcases of_bnx h with ⟨r4, σ5, g6, h⟩ | ⟨X, σ5, g6, rfl⟩
  rotate_left
  · exact x_VT (As := [.int a2]) (rest := []) hF hl hP hS (c_X8_checkState ht g6) (cw_X8_140 hC rfl rfl ⟨Nat.le_of_ble_eq_true rfl, Nat.le_of_ble_eq_true rfl⟩) lc_0 rfl rfl rfl (Nat.le_of_ble_eq_true rfl) dX8_takes_7 ⟨Nat.le_refl _, Nat.le_refl _⟩ (htab _ _ rfl)
  refine x_VV (As := [.int a2]) (rest := []) hF hl hP hS (c_X8_checkState ht g6) (cw_X8_140 hC rfl rfl ⟨Nat.le_of_ble_eq_true rfl, Nat.le_of_ble_eq_true rfl⟩) lc_0 rfl rfl rfl (Nat.le_of_ble_eq_true rfl) dX8_takes_7 ⟨Nat.zero_le _, Nat.zero_le _⟩ (fun H locs hP hS => ?_)
  refine lv_aload_n hx hb dX8_takes_10 rfl (lv_at hl 0 rfl) ?_
  refine gf_X8_73 hC hb hP dX8_takes_11 ?_
  refine lv_iload_n hx hb dX8_takes_14 rfl (lv_at hl 1 rfl) ?_
  obtain ⟨g7, h⟩ := of_gd h
  obtain ⟨g8, h⟩ := of_gd h
  refine x_aald hC hb hP lc_10 g7 dX8_takes_15 (fun d9 ed9 => ?_)
  have h := of_lt h ed9
  have hd9 : d9 < 13 := by rw [ed9]; exact Nat.lt_of_not_le g8
  refine lv_astore (lv' := [(4, .ref (E (41 + 5 * d9))), (0, .ref (E 0)), (1, .int a1), (2, .int a2), (3, .int a3)]) hx hb dX8_takes_16 hl (by decide) rfl (fun ls hl => ?_)
  refine lv_aload_n hx hb dX8_takes_18 rfl (lv_at hl 1 rfl) ?_
  refine lv_iload_n hx hb dX8_takes_19 rfl (lv_at hl 4 rfl) ?_
  refine lv_iconst (v := 1) hx hb dX8_takes_20 (by decide) ?_
  refine lv_aload hx hb dX8_takes_21 (lv_at hl 0 rfl) ?_
  refine gf_X8_199 hC hb hP hd9 dX8_takes_23 ?_
  rcases of_bnx h with ⟨r10, σ11, g12, h⟩ | ⟨X, σ11, g12, rfl⟩
  rotate_left
  · exact x_VT (As := [.int a3, .int 1, .int (gI σ5 (64 * (41 + 5 * d9) + 1))]) (rest := []) hF hl hP hS (c_X8_checkRange ht g12) (cw_X8_96 hC rfl rfl ⟨Nat.le_of_ble_eq_true rfl, Nat.le_of_ble_eq_true rfl⟩) lc_0 rfl rfl rfl (Nat.le_of_ble_eq_true rfl) dX8_takes_26 ⟨Nat.le_refl _, Nat.le_refl _⟩ (htab _ _ rfl)
  refine x_VV (As := [.int a3, .int 1, .int (gI σ5 (64 * (41 + 5 * d9) + 1))]) (rest := []) hF hl hP hS (c_X8_checkRange ht g12) (cw_X8_96 hC rfl rfl ⟨Nat.le_of_ble_eq_true rfl, Nat.le_of_ble_eq_true rfl⟩) lc_0 rfl rfl rfl (Nat.le_of_ble_eq_true rfl) dX8_takes_26 ⟨Nat.zero_le _, Nat.zero_le _⟩ (fun H locs hP hS => ?_)
  refine lv_aload hx hb dX8_takes_29 (lv_at hl 0 rfl) ?_
  refine lv_iload_n hx hb dX8_takes_31 rfl (lv_at hl 3 rfl) ?_
  refine lv_iload_n hx hb dX8_takes_32 rfl (lv_at hl 4 rfl) ?_
  obtain ⟨r13, σ14, g15, h⟩ := of_bnd h
  refine x_VI (As := [.int a2, .int a3]) (rest := []) hF hl hP hS (c_X6_takenIn hd9 g15) (cw_X8_209 hC rfl rfl ⟨Nat.le_of_ble_eq_true rfl, Nat.le_of_ble_eq_true rfl⟩) (lc_s0 hd9) rfl rfl rfl (Nat.le_of_ble_eq_true rfl) dX8_takes_33 ⟨Nat.zero_le _, Nat.zero_le _⟩ (fun H locs hP hS => ?_)
  exact x_iretX hF hP hS h dX8_takes_36

def f_X8_worth (a1 : Int32) (a2 : Int32) (a3 : Int32) (σ : Sta) : Option ((Int64 ⊕ String) × Sta) :=
  bnx (f_X8_checkStrategy a1 σ) (fun _ σ2 =>
  bnx (f_X8_checkState a2 σ2) (fun _ σ5 =>
  if a1 < 0 ∨ 13 ≤ (a1.toNatClampNeg) then none else (
  if 13 ≤ gP σ5 (a1.toNatClampNeg) then none else (
  lt (gP σ5 (a1.toNatClampNeg)) (fun d9 =>
  bnx (f_X8_checkRange a3 0 (gI σ5 (64 * (41 + 5 * d9) + 1)) σ5) (fun _ σ11 =>
  bnd (f_X8_entry_ (41 + 5 * d9 + 3) 3100 ((a3 * 100) + a2) σ11) (fun r13 σ14 =>
  some (.inl r13, σ14))))))))
set_option maxHeartbeats 4000000 in
set_option maxRecDepth 100000 in
theorem c_X8_worth {l : Launch} {D : va_G} {Y : CYs} {E : Nat → Nat} {a1 : Int32} {a2 : Int32} {a3 : Int32} (ht : l.stackTraces = false) {σ : Sta} {o : (Int64 ⊕ String) × Sta} (h : f_X8_worth a1 a2 a3 σ = some o) : MXL l yX8_worth (Cond.code yX8_worth cX8_worth 5 (some .long) :: gW) 8 125 LC Y D E [.ref (E 0), .int a1, .int a2, .int a3] σ o := by
  refine Met_ofXL (by decide) (Nat.le_of_ble_eq_true rfl) (fun p e s m args below meth c hF hP htab ls hl => ?_)
  have hS : va_S (AF E LC.length s.heap.size) s.heap s.heap [] := va_S.rf
  have hl : lv_has ls 5 [(0, .ref (E 0)), (1, .int a1), (2, .int a2), (3, .int a3)] := hl
  show W p l e (rmx 8 125 o) s m args below meth c s.heap [] 0 0 (QmL below args s LC Y D E o) (F0 m 0 ls [])
  unfold f_X8_worth at h
  obtain ⟨hC, hb, hml, hr, hlk, hD, hSW⟩ := id hF
  have hx := hC.1
  refine lv_aload_n hx hb dX8_worth_0 rfl (lv_at hl 0 rfl) ?_
  refine lv_iload_n hx hb dX8_worth_1 rfl (lv_at hl 1 rfl) ?_
  rcases of_bnx h with ⟨r1, σ2, g3, h⟩ | ⟨X, σ2, g3, rfl⟩
  rotate_left
  · exact x_VT (As := [.int a1]) (rest := []) hF hl hP hS (c_X8_checkStrategy ht g3) (cw_X8_206 hC rfl rfl ⟨Nat.le_of_ble_eq_true rfl, Nat.le_of_ble_eq_true rfl⟩) lc_0 rfl rfl rfl (Nat.le_of_ble_eq_true rfl) dX8_worth_2 ⟨Nat.le_refl _, Nat.le_refl _⟩ (htab _ _ rfl)
  refine x_VV (As := [.int a1]) (rest := []) hF hl hP hS (c_X8_checkStrategy ht g3) (cw_X8_206 hC rfl rfl ⟨Nat.le_of_ble_eq_true rfl, Nat.le_of_ble_eq_true rfl⟩) lc_0 rfl rfl rfl (Nat.le_of_ble_eq_true rfl) dX8_worth_2 ⟨Nat.zero_le _, Nat.zero_le _⟩ (fun H locs hP hS => ?_)
  refine lv_aload_n hx hb dX8_worth_5 rfl (lv_at hl 0 rfl) ?_
  refine lv_iload_n hx hb dX8_worth_6 rfl (lv_at hl 2 rfl) ?_
  rcases of_bnx h with ⟨r4, σ5, g6, h⟩ | ⟨X, σ5, g6, rfl⟩
  rotate_left
  · exact x_VT (As := [.int a2]) (rest := []) hF hl hP hS (c_X8_checkState ht g6) (cw_X8_140 hC rfl rfl ⟨Nat.le_of_ble_eq_true rfl, Nat.le_of_ble_eq_true rfl⟩) lc_0 rfl rfl rfl (Nat.le_of_ble_eq_true rfl) dX8_worth_7 ⟨Nat.le_refl _, Nat.le_refl _⟩ (htab _ _ rfl)
  refine x_VV (As := [.int a2]) (rest := []) hF hl hP hS (c_X8_checkState ht g6) (cw_X8_140 hC rfl rfl ⟨Nat.le_of_ble_eq_true rfl, Nat.le_of_ble_eq_true rfl⟩) lc_0 rfl rfl rfl (Nat.le_of_ble_eq_true rfl) dX8_worth_7 ⟨Nat.zero_le _, Nat.zero_le _⟩ (fun H locs hP hS => ?_)
  refine lv_aload_n hx hb dX8_worth_10 rfl (lv_at hl 0 rfl) ?_
  refine gf_X8_73 hC hb hP dX8_worth_11 ?_
  refine lv_iload_n hx hb dX8_worth_14 rfl (lv_at hl 1 rfl) ?_
  obtain ⟨g7, h⟩ := of_gd h
  obtain ⟨g8, h⟩ := of_gd h
  refine x_aald hC hb hP lc_10 g7 dX8_worth_15 (fun d9 ed9 => ?_)
  have h := of_lt h ed9
  have hd9 : d9 < 13 := by rw [ed9]; exact Nat.lt_of_not_le g8
  refine lv_astore (lv' := [(4, .ref (E (41 + 5 * d9))), (0, .ref (E 0)), (1, .int a1), (2, .int a2), (3, .int a3)]) hx hb dX8_worth_16 hl (by decide) rfl (fun ls hl => ?_)
  refine lv_aload_n hx hb dX8_worth_18 rfl (lv_at hl 1 rfl) ?_
  refine lv_iload_n hx hb dX8_worth_19 rfl (lv_at hl 4 rfl) ?_
  refine lv_iconst (v := 0) hx hb dX8_worth_20 (by decide) ?_
  refine lv_aload hx hb dX8_worth_21 (lv_at hl 0 rfl) ?_
  refine gf_X8_199 hC hb hP hd9 dX8_worth_23 ?_
  rcases of_bnx h with ⟨r10, σ11, g12, h⟩ | ⟨X, σ11, g12, rfl⟩
  rotate_left
  · exact x_VT (As := [.int a3, .int 0, .int (gI σ5 (64 * (41 + 5 * d9) + 1))]) (rest := []) hF hl hP hS (c_X8_checkRange ht g12) (cw_X8_96 hC rfl rfl ⟨Nat.le_of_ble_eq_true rfl, Nat.le_of_ble_eq_true rfl⟩) lc_0 rfl rfl rfl (Nat.le_of_ble_eq_true rfl) dX8_worth_26 ⟨Nat.le_refl _, Nat.le_refl _⟩ (htab _ _ rfl)
  refine x_VV (As := [.int a3, .int 0, .int (gI σ5 (64 * (41 + 5 * d9) + 1))]) (rest := []) hF hl hP hS (c_X8_checkRange ht g12) (cw_X8_96 hC rfl rfl ⟨Nat.le_of_ble_eq_true rfl, Nat.le_of_ble_eq_true rfl⟩) lc_0 rfl rfl rfl (Nat.le_of_ble_eq_true rfl) dX8_worth_26 ⟨Nat.zero_le _, Nat.zero_le _⟩ (fun H locs hP hS => ?_)
  refine lv_aload hx hb dX8_worth_29 (lv_at hl 0 rfl) ?_
  refine gf_X8_212 hC hb hP hd9 dX8_worth_31 ?_
  refine lv_iload_n hx hb dX8_worth_34 rfl (lv_at hl 4 rfl) ?_
  refine lv_bipush (v := 100) hx hb dX8_worth_35 (by decide) ?_
  refine lv_imul hx hb dX8_worth_37 ?_
  refine lv_iload_n hx hb dX8_worth_38 rfl (lv_at hl 3 rfl) ?_
  refine lv_iadd hx hb dX8_worth_39 ?_
  obtain ⟨r13, σ14, g15, h⟩ := of_bnd h
  refine x_SL (As := [.ref (E (41 + 5 * d9 + 3)), .int ((a3 * 100) + a2)]) (rest := []) hF hl hP hS (c_X8_entry_ (lc_s3 hd9) g15) (cw_X8_216 hC rfl rfl ⟨Nat.le_of_ble_eq_true rfl, Nat.le_of_ble_eq_true rfl⟩) rfl rfl (Nat.le_of_ble_eq_true rfl) dX8_worth_40 ⟨Nat.zero_le _, Nat.zero_le _⟩ (fun H locs hP hS => ?_)
  exact x_lretX hF hP hS h dX8_worth_43

def f_X8_brings (a1 : Int32) (a2 : Int32) (σ : Sta) : Option ((Int64 ⊕ String) × Sta) :=
  bnx (f_X8_checkStrategy a1 σ) (fun _ σ2 =>
  bnx (f_X8_checkGain a2 σ2) (fun _ σ5 =>
  if a1 < 0 ∨ 13 ≤ (a1.toNatClampNeg) then none else (
  if 13 ≤ gP σ5 (a1.toNatClampNeg) then none else (
  lt (gP σ5 (a1.toNatClampNeg)) (fun d9 =>
  if a2 < 0 ∨ 3 ≤ (a2.toNatClampNeg) then none else (
  some (.inl (gJ σ5 (41 + 5 * d9 + 4) (a2.toNatClampNeg)), σ5)))))))
set_option maxHeartbeats 4000000 in
set_option maxRecDepth 100000 in
theorem c_X8_brings {l : Launch} {D : va_G} {Y : CYs} {E : Nat → Nat} {a1 : Int32} {a2 : Int32} (ht : l.stackTraces = false) {σ : Sta} {o : (Int64 ⊕ String) × Sta} (h : f_X8_brings a1 a2 σ = some o) : MXL l yX8_brings (Cond.code yX8_brings cX8_brings 3 (some .long) :: gW) 8 125 LC Y D E [.ref (E 0), .int a1, .int a2] σ o := by
  refine Met_ofXL (by decide) (Nat.le_of_ble_eq_true rfl) (fun p e s m args below meth c hF hP htab ls hl => ?_)
  have hS : va_S (AF E LC.length s.heap.size) s.heap s.heap [] := va_S.rf
  have hl : lv_has ls 3 [(0, .ref (E 0)), (1, .int a1), (2, .int a2)] := hl
  show W p l e (rmx 8 125 o) s m args below meth c s.heap [] 0 0 (QmL below args s LC Y D E o) (F0 m 0 ls [])
  unfold f_X8_brings at h
  obtain ⟨hC, hb, hml, hr, hlk, hD, hSW⟩ := id hF
  have hx := hC.1
  refine lv_aload_n hx hb dX8_brings_0 rfl (lv_at hl 0 rfl) ?_
  refine lv_iload_n hx hb dX8_brings_1 rfl (lv_at hl 1 rfl) ?_
  rcases of_bnx h with ⟨r1, σ2, g3, h⟩ | ⟨X, σ2, g3, rfl⟩
  rotate_left
  · exact x_VT (As := [.int a1]) (rest := []) hF hl hP hS (c_X8_checkStrategy ht g3) (cw_X8_206 hC rfl rfl ⟨Nat.le_of_ble_eq_true rfl, Nat.le_of_ble_eq_true rfl⟩) lc_0 rfl rfl rfl (Nat.le_of_ble_eq_true rfl) dX8_brings_2 ⟨Nat.le_refl _, Nat.le_refl _⟩ (htab _ _ rfl)
  refine x_VV (As := [.int a1]) (rest := []) hF hl hP hS (c_X8_checkStrategy ht g3) (cw_X8_206 hC rfl rfl ⟨Nat.le_of_ble_eq_true rfl, Nat.le_of_ble_eq_true rfl⟩) lc_0 rfl rfl rfl (Nat.le_of_ble_eq_true rfl) dX8_brings_2 ⟨Nat.zero_le _, Nat.zero_le _⟩ (fun H locs hP hS => ?_)
  refine lv_aload_n hx hb dX8_brings_5 rfl (lv_at hl 0 rfl) ?_
  refine lv_iload_n hx hb dX8_brings_6 rfl (lv_at hl 2 rfl) ?_
  rcases of_bnx h with ⟨r4, σ5, g6, h⟩ | ⟨X, σ5, g6, rfl⟩
  rotate_left
  · exact x_VT (As := [.int a2]) (rest := []) hF hl hP hS (c_X8_checkGain ht g6) (cw_X8_178 hC rfl rfl ⟨Nat.le_of_ble_eq_true rfl, Nat.le_of_ble_eq_true rfl⟩) lc_0 rfl rfl rfl (Nat.le_of_ble_eq_true rfl) dX8_brings_7 ⟨Nat.le_refl _, Nat.le_refl _⟩ (htab _ _ rfl)
  refine x_VV (As := [.int a2]) (rest := []) hF hl hP hS (c_X8_checkGain ht g6) (cw_X8_178 hC rfl rfl ⟨Nat.le_of_ble_eq_true rfl, Nat.le_of_ble_eq_true rfl⟩) lc_0 rfl rfl rfl (Nat.le_of_ble_eq_true rfl) dX8_brings_7 ⟨Nat.zero_le _, Nat.zero_le _⟩ (fun H locs hP hS => ?_)
  refine lv_aload_n hx hb dX8_brings_10 rfl (lv_at hl 0 rfl) ?_
  refine gf_X8_73 hC hb hP dX8_brings_11 ?_
  refine lv_iload_n hx hb dX8_brings_14 rfl (lv_at hl 1 rfl) ?_
  obtain ⟨g7, h⟩ := of_gd h
  obtain ⟨g8, h⟩ := of_gd h
  refine x_aald hC hb hP lc_10 g7 dX8_brings_15 (fun d9 ed9 => ?_)
  have h := of_lt h ed9
  have hd9 : d9 < 13 := by rw [ed9]; exact Nat.lt_of_not_le g8
  refine gf_X8_219 hC hb hP hd9 dX8_brings_16 ?_
  refine lv_iload_n hx hb dX8_brings_19 rfl (lv_at hl 2 rfl) ?_
  obtain ⟨g10, h⟩ := of_gd h
  refine x_lald hC hb hP (lc_s4 hd9) g10 dX8_brings_20 ?_
  exact x_lretX hF hP hS h dX8_brings_21

def f_X8_chance (a1 : Int32) (σ : Sta) : Option ((Int32 ⊕ String) × Sta) :=
  bnx (f_X8_checkStrategy a1 σ) (fun _ σ2 =>
  if a1 < 0 ∨ 13 ≤ (a1.toNatClampNeg) then none else (
  if 13 ≤ gP σ2 (a1.toNatClampNeg) then none else (
  lt (gP σ2 (a1.toNatClampNeg)) (fun d6 =>
  some (.inl (gI σ2 (64 * (41 + 5 * d6) + 5)), σ2)))))
set_option maxHeartbeats 4000000 in
set_option maxRecDepth 100000 in
theorem c_X8_chance {l : Launch} {D : va_G} {Y : CYs} {E : Nat → Nat} {a1 : Int32} (ht : l.stackTraces = false) {σ : Sta} {o : (Int32 ⊕ String) × Sta} (h : f_X8_chance a1 σ = some o) : MXI l yX8_chance (Cond.code yX8_chance cX8_chance 2 (some .int) :: gW) 8 125 LC Y D E [.ref (E 0), .int a1] σ o := by
  refine Met_ofXI (by decide) (Nat.le_of_ble_eq_true rfl) (fun p e s m args below meth c hF hP htab ls hl => ?_)
  have hS : va_S (AF E LC.length s.heap.size) s.heap s.heap [] := va_S.rf
  have hl : lv_has ls 2 [(0, .ref (E 0)), (1, .int a1)] := hl
  show W p l e (rmx 8 125 o) s m args below meth c s.heap [] 0 0 (QmI below args s LC Y D E o) (F0 m 0 ls [])
  unfold f_X8_chance at h
  obtain ⟨hC, hb, hml, hr, hlk, hD, hSW⟩ := id hF
  have hx := hC.1
  refine lv_aload_n hx hb dX8_chance_0 rfl (lv_at hl 0 rfl) ?_
  refine lv_iload_n hx hb dX8_chance_1 rfl (lv_at hl 1 rfl) ?_
  rcases of_bnx h with ⟨r1, σ2, g3, h⟩ | ⟨X, σ2, g3, rfl⟩
  rotate_left
  · exact x_VT (As := [.int a1]) (rest := []) hF hl hP hS (c_X8_checkStrategy ht g3) (cw_X8_206 hC rfl rfl ⟨Nat.le_of_ble_eq_true rfl, Nat.le_of_ble_eq_true rfl⟩) lc_0 rfl rfl rfl (Nat.le_of_ble_eq_true rfl) dX8_chance_2 ⟨Nat.le_refl _, Nat.le_refl _⟩ (htab _ _ rfl)
  refine x_VV (As := [.int a1]) (rest := []) hF hl hP hS (c_X8_checkStrategy ht g3) (cw_X8_206 hC rfl rfl ⟨Nat.le_of_ble_eq_true rfl, Nat.le_of_ble_eq_true rfl⟩) lc_0 rfl rfl rfl (Nat.le_of_ble_eq_true rfl) dX8_chance_2 ⟨Nat.zero_le _, Nat.zero_le _⟩ (fun H locs hP hS => ?_)
  refine lv_aload_n hx hb dX8_chance_5 rfl (lv_at hl 0 rfl) ?_
  refine gf_X8_73 hC hb hP dX8_chance_6 ?_
  refine lv_iload_n hx hb dX8_chance_9 rfl (lv_at hl 1 rfl) ?_
  obtain ⟨g4, h⟩ := of_gd h
  obtain ⟨g5, h⟩ := of_gd h
  refine x_aald hC hb hP lc_10 g4 dX8_chance_10 (fun d6 ed6 => ?_)
  have h := of_lt h ed6
  have hd6 : d6 < 13 := by rw [ed6]; exact Nat.lt_of_not_le g5
  refine gf_X8_222 hC hb hP hd6 dX8_chance_11 ?_
  exact x_iretX hF hP hS h dX8_chance_14

abbrev rm_X8_isBetter : Room := { frames := 0, cells := 0, slots := 0, locals := 0 }
def f_X8_isBetter_64 (d1 : Nat) (d2 : Nat) (k5 : Int32 → Int32 → Sta → Option (Int32 × Sta)) (v4 : Int32) (s0 : Int32) (σ : Sta) : Option (Int32 × Sta) :=
  lt (v4 + 1) (fun x1 =>
  k5 s0 x1 σ)
set_option maxHeartbeats 4000000 in
set_option maxRecDepth 100000 in
theorem t_X8_isBetter_64 {l : Launch} {D : va_G} {Y : CYs} {E : Nat → Nat} {p : Program} {e : Env} {s : State} {m : MethodId} {args : Array Value} {below : List Frame} {meth : Method} {c : Code} {d1 : Nat} {d2 : Nat} (hd1 : d1 < 13) (hd2 : d2 < 13) (hF : Fr p s m args meth c RX8 cX8_isBetter 5 (some .boolean) D Y E LC) {o : Int32 × Sta} (k5 : Int32 → Int32 → Sta → Option (Int32 × Sta)) (hk5 : ∀ (v3 : Int32) (v4 : Int32) (σ : Sta) (H : Heap) (locs : List Loc) (ls : Array Slot), k5 v3 v4 σ = some o → va_P D vwCl (wd Y E σ 0 LC) H → va_S (AF E LC.length s.heap.size) s.heap H locs → lv_has ls 5 [(0, .ref (E 0)), (1, .ref (E (41 + 5 * d1))), (2, .ref (E (41 + 5 * d2))), (3, .int v3), (4, .int v4)] → WI p l e rm_X8_isBetter s m args below meth c LC Y D E o H locs (F0 m 5 ls [])) : ∀ (v4 : Int32) (s0 : Int32) (σ : Sta) (H : Heap) (locs : List Loc) (ls : Array Slot), f_X8_isBetter_64 d1 d2 k5 v4 s0 σ = some o → va_P D vwCl (wd Y E σ 0 LC) H → va_S (AF E LC.length s.heap.size) s.heap H locs → lv_has ls 5 [(0, .ref (E 0)), (1, .ref (E (41 + 5 * d1))), (2, .ref (E (41 + 5 * d2))), (4, .int v4)] → WI p l e rm_X8_isBetter s m args below meth c LC Y D E o H locs (F0 m 64 ls [.int s0]) := by
  intro v4 s0 σ H locs ls h hP hS hl
  unfold f_X8_isBetter_64 at h
  obtain ⟨hC, hb, hml, hr, hlk, hD, hSW⟩ := id hF
  have hx := hC.1
  refine lv_istore_n (lv' := [(3, .int s0), (0, .ref (E 0)), (1, .ref (E (41 + 5 * d1))), (2, .ref (E (41 + 5 * d2))), (4, .int v4)]) hx hb dX8_isBetter_64 rfl hl (by decide) rfl (fun ls hl => ?_)
  obtain ⟨x1, ex1⟩ : ∃ y : Int32, y = v4 + 1 := ⟨_, rfl⟩
  have h := of_lt h ex1
  refine lv_iinc (v := x1) (lv' := [(4, .int x1), (3, .int s0), (0, .ref (E 0)), (1, .ref (E (41 + 5 * d1))), (2, .ref (E (41 + 5 * d2)))]) hx hb dX8_isBetter_65 hl (k := 4) rfl (by rw [ex1]; rfl) (by decide) rfl (fun ls hl => ?_)
  refine lv_goto (tgt := 5) hx hb dX8_isBetter_68 (by decide) ?_
  exact hk5 s0 x1 σ _ _ _ h hP hS (lv_sub hl [2, 3, 4, 1, 0] rfl)

def f_X8_isBetter_59 (d1 : Nat) (d2 : Nat) (k5 : Int32 → Int32 → Sta → Option (Int32 × Sta)) (v4 : Int32) (σ : Sta) : Option (Int32 × Sta) :=
  f_X8_isBetter_64 d1 d2 k5 v4 1 σ
set_option maxHeartbeats 4000000 in
set_option maxRecDepth 100000 in
theorem t_X8_isBetter_59 {l : Launch} {D : va_G} {Y : CYs} {E : Nat → Nat} {p : Program} {e : Env} {s : State} {m : MethodId} {args : Array Value} {below : List Frame} {meth : Method} {c : Code} {d1 : Nat} {d2 : Nat} (hd1 : d1 < 13) (hd2 : d2 < 13) (hF : Fr p s m args meth c RX8 cX8_isBetter 5 (some .boolean) D Y E LC) {o : Int32 × Sta} (k5 : Int32 → Int32 → Sta → Option (Int32 × Sta)) (hk5 : ∀ (v3 : Int32) (v4 : Int32) (σ : Sta) (H : Heap) (locs : List Loc) (ls : Array Slot), k5 v3 v4 σ = some o → va_P D vwCl (wd Y E σ 0 LC) H → va_S (AF E LC.length s.heap.size) s.heap H locs → lv_has ls 5 [(0, .ref (E 0)), (1, .ref (E (41 + 5 * d1))), (2, .ref (E (41 + 5 * d2))), (3, .int v3), (4, .int v4)] → WI p l e rm_X8_isBetter s m args below meth c LC Y D E o H locs (F0 m 5 ls [])) : ∀ (v4 : Int32) (σ : Sta) (H : Heap) (locs : List Loc) (ls : Array Slot), f_X8_isBetter_59 d1 d2 k5 v4 σ = some o → va_P D vwCl (wd Y E σ 0 LC) H → va_S (AF E LC.length s.heap.size) s.heap H locs → lv_has ls 5 [(0, .ref (E 0)), (1, .ref (E (41 + 5 * d1))), (2, .ref (E (41 + 5 * d2))), (4, .int v4)] → WI p l e rm_X8_isBetter s m args below meth c LC Y D E o H locs (F0 m 59 ls []) := by
  intro v4 σ H locs ls h hP hS hl
  unfold f_X8_isBetter_59 at h
  obtain ⟨hC, hb, hml, hr, hlk, hD, hSW⟩ := id hF
  have hx := hC.1
  refine lv_iconst (v := 1) hx hb dX8_isBetter_59 (by decide) ?_
  refine lv_goto (tgt := 64) hx hb dX8_isBetter_60 (by decide) ?_
  exact t_X8_isBetter_64  hd1 hd2 hF k5 hk5 v4 1 σ _ _ _ h hP hS (lv_sub hl [0, 1, 2, 3] rfl)

def f_X8_isBetter_5 (d1 : Nat) (d2 : Nat) : Nat → Int32 → Int32 → Sta → Option (Int32 × Sta)
  | 0, _, _, _ => none
  | n + 1, v3, v4, σ => if gI σ 197 ≤ v4 then
      if ¬ (v3 = 0 ∨ v3 = 1) then none else (
      some (v3, σ))
    else
      if v4 < 0 ∨ 3 ≤ (v4.toNatClampNeg) then none else (
      if v4 < 0 ∨ 3 ≤ (v4.toNatClampNeg) then none else (
      if 0 ≤ lg_cmp (gJ σ (41 + 5 * d1 + 4) (v4.toNatClampNeg)) (gJ σ (41 + 5 * d2 + 4) (v4.toNatClampNeg)) then
        if v3 = 0 then
          if v4 < 0 ∨ 3 ≤ (v4.toNatClampNeg) then none else (
          if v4 < 0 ∨ 3 ≤ (v4.toNatClampNeg) then none else (
          if lg_cmp (gJ σ (41 + 5 * d1 + 4) (v4.toNatClampNeg)) (gJ σ (41 + 5 * d2 + 4) (v4.toNatClampNeg)) ≤ 0 then
            f_X8_isBetter_64 d1 d2 (f_X8_isBetter_5 d1 d2 n) v4 0 σ
          else
            f_X8_isBetter_59 d1 d2 (f_X8_isBetter_5 d1 d2 n) v4 σ))
        else
          f_X8_isBetter_59 d1 d2 (f_X8_isBetter_5 d1 d2 n) v4 σ
      else
        some (0, σ)))
set_option maxHeartbeats 4000000 in
set_option maxRecDepth 100000 in
theorem t_X8_isBetter_5 {l : Launch} {D : va_G} {Y : CYs} {E : Nat → Nat} {p : Program} {e : Env} {s : State} {m : MethodId} {args : Array Value} {below : List Frame} {meth : Method} {c : Code} {d1 : Nat} {d2 : Nat} (hd1 : d1 < 13) (hd2 : d2 < 13) (hF : Fr p s m args meth c RX8 cX8_isBetter 5 (some .boolean) D Y E LC) {o : Int32 × Sta} : ∀ (n : Nat) (v3 : Int32) (v4 : Int32) (σ : Sta) (H : Heap) (locs : List Loc) (ls : Array Slot), f_X8_isBetter_5 d1 d2 n v3 v4 σ = some o → va_P D vwCl (wd Y E σ 0 LC) H → va_S (AF E LC.length s.heap.size) s.heap H locs → lv_has ls 5 [(0, .ref (E 0)), (1, .ref (E (41 + 5 * d1))), (2, .ref (E (41 + 5 * d2))), (3, .int v3), (4, .int v4)] → WI p l e rm_X8_isBetter s m args below meth c LC Y D E o H locs (F0 m 5 ls []) := by
  intro n
  induction n with
  | zero =>
    intro v3 v4 σ H locs ls h hP hS hl
    exact nomatch (show (none : Option (Int32 × Sta)) = some o from h)
  | succ n ih =>
    intro v3 v4 σ H locs ls h hP hS hl
    rw [f_X8_isBetter_5] at h
    obtain ⟨hC, hb, hml, hr, hlk, hD, hSW⟩ := id hF
    have hx := hC.1
    refine lv_iload hx hb dX8_isBetter_5 (lv_at hl 4 rfl) ?_
    refine lv_aload_n hx hb dX8_isBetter_7 rfl (lv_at hl 0 rfl) ?_
    refine gf_X8_30 hC hb hP dX8_isBetter_8 ?_
    refine gf_X8_123 hC hb hP dX8_isBetter_11 ?_
    refine lv_icmp_ge (tgt := 71) hx hb dX8_isBetter_14 (by decide) (fun c1 => ?_) (fun c1 => ?_)
    · have h := of_t h c1
      refine lv_iload_n hx hb dX8_isBetter_71 rfl (lv_at hl 3 rfl) ?_
      obtain ⟨g2, h⟩ := of_gd h
      exact x_zret hF hP hS (zb g2) h dX8_isBetter_72
    · have h := of_f h c1
      refine lv_aload_n hx hb dX8_isBetter_17 rfl (lv_at hl 1 rfl) ?_
      refine gf_X8_219 hC hb hP hd1 dX8_isBetter_18 ?_
      refine lv_iload hx hb dX8_isBetter_21 (lv_at hl 4 rfl) ?_
      obtain ⟨g3, h⟩ := of_gd h
      refine x_lald hC hb hP (lc_s4 hd1) g3 dX8_isBetter_23 ?_
      refine lv_aload_n hx hb dX8_isBetter_24 rfl (lv_at hl 2 rfl) ?_
      refine gf_X8_219 hC hb hP hd2 dX8_isBetter_25 ?_
      refine lv_iload hx hb dX8_isBetter_28 (lv_at hl 4 rfl) ?_
      obtain ⟨g4, h⟩ := of_gd h
      refine x_lald hC hb hP (lc_s4 hd2) g4 dX8_isBetter_30 ?_
      refine W.lcmp hx hb dX8_isBetter_31 ?_
      refine lv_if_ge (tgt := 37) hx hb dX8_isBetter_32 (by decide) (fun c5 => ?_) (fun c5 => ?_)
      · have h := of_t h c5
        refine lv_iload_n hx hb dX8_isBetter_37 rfl (lv_at hl 3 rfl) ?_
        refine lv_if_ne (tgt := 59) hx hb dX8_isBetter_38 (by decide) (fun c6 => ?_) (fun c6 => ?_)
        · have h := of_f h c6
          exact t_X8_isBetter_59  hd1 hd2 hF (f_X8_isBetter_5 d1 d2 n) ih v4 σ _ _ _ h hP hS (lv_sub hl [0, 1, 2, 4] rfl)
        · have h := of_t h c6
          refine lv_aload_n hx hb dX8_isBetter_41 rfl (lv_at hl 1 rfl) ?_
          refine gf_X8_219 hC hb hP hd1 dX8_isBetter_42 ?_
          refine lv_iload hx hb dX8_isBetter_45 (lv_at hl 4 rfl) ?_
          obtain ⟨g7, h⟩ := of_gd h
          refine x_lald hC hb hP (lc_s4 hd1) g7 dX8_isBetter_47 ?_
          refine lv_aload_n hx hb dX8_isBetter_48 rfl (lv_at hl 2 rfl) ?_
          refine gf_X8_219 hC hb hP hd2 dX8_isBetter_49 ?_
          refine lv_iload hx hb dX8_isBetter_52 (lv_at hl 4 rfl) ?_
          obtain ⟨g8, h⟩ := of_gd h
          refine x_lald hC hb hP (lc_s4 hd2) g8 dX8_isBetter_54 ?_
          refine W.lcmp hx hb dX8_isBetter_55 ?_
          refine lv_if_le (tgt := 63) hx hb dX8_isBetter_56 (by decide) (fun c9 => ?_) (fun c9 => ?_)
          · have h := of_t h c9
            refine lv_iconst (v := 0) hx hb dX8_isBetter_63 (by decide) ?_
            exact t_X8_isBetter_64  hd1 hd2 hF (f_X8_isBetter_5 d1 d2 n) ih v4 0 σ _ _ _ h hP hS (lv_sub hl [0, 1, 2, 4] rfl)
          · have h := of_f h c9
            exact t_X8_isBetter_59  hd1 hd2 hF (f_X8_isBetter_5 d1 d2 n) ih v4 σ _ _ _ h hP hS (lv_sub hl [0, 1, 2, 4] rfl)
      · have h := of_f h c5
        refine lv_iconst (v := 0) hx hb dX8_isBetter_35 (by decide) ?_
        exact x_zret hF hP hS rfl h dX8_isBetter_36

def f_X8_isBetter (d1 : Nat) (d2 : Nat) (σ : Sta) : Option (Int32 × Sta) :=
  f_X8_isBetter_5 d1 d2 FU 0 0 σ
set_option maxHeartbeats 4000000 in
set_option maxRecDepth 100000 in
theorem c_X8_isBetter {l : Launch} {D : va_G} {Y : CYs} {E : Nat → Nat} {d1 : Nat} {d2 : Nat} (hd1 : d1 < 13) (hd2 : d2 < 13) {σ : Sta} {o : Int32 × Sta} (h : f_X8_isBetter d1 d2 σ = some o) : MI l yX8_isBetter (Cond.code yX8_isBetter cX8_isBetter 5 (some .boolean) :: gW) rm_X8_isBetter LC Y D E [.ref (E 0), .ref (E (41 + 5 * d1)), .ref (E (41 + 5 * d2))] σ o := by
  intro sz
  refine Met_of (Qc := fun sz => QI LC Y D E sz o) (by decide) (Nat.le_of_ble_eq_true rfl) (fun p e s m args below meth c hF hP ls hl => ?_) sz
  have hS : va_S (AF E LC.length s.heap.size) s.heap s.heap [] := va_S.rf
  have hl : lv_has ls 5 [(0, .ref (E 0)), (1, .ref (E (41 + 5 * d1))), (2, .ref (E (41 + 5 * d2)))] := hl
  show WI p l e rm_X8_isBetter s m args below meth c LC Y D E o s.heap [] (F0 m 0 ls [])
  unfold f_X8_isBetter at h
  obtain ⟨hC, hb, hml, hr, hlk, hD, hSW⟩ := id hF
  have hx := hC.1
  refine lv_iconst (v := 0) hx hb dX8_isBetter_0 (by decide) ?_
  refine lv_istore_n (lv' := [(3, .int 0), (0, .ref (E 0)), (1, .ref (E (41 + 5 * d1))), (2, .ref (E (41 + 5 * d2)))]) hx hb dX8_isBetter_1 rfl hl (by decide) rfl (fun ls hl => ?_)
  refine lv_iconst (v := 0) hx hb dX8_isBetter_2 (by decide) ?_
  refine lv_istore (lv' := [(4, .int 0), (3, .int 0), (0, .ref (E 0)), (1, .ref (E (41 + 5 * d1))), (2, .ref (E (41 + 5 * d2)))]) hx hb dX8_isBetter_3 hl (by decide) rfl (fun ls hl => ?_)
  exact t_X8_isBetter_5  hd1 hd2 hF FU 0 0 σ _ _ _ h hP hS (lv_sub hl [2, 3, 4, 1, 0] rfl)

def f_X8_isWorthHaving_7 : Nat → Int32 → Int32 → Sta → Option ((Int32 ⊕ String) × Sta)
  | 0, _, _, _ => none
  | n + 1, v1, v2, σ => if gI σ 11 ≤ v2 then
      some (.inl 1, σ)
    else
      if v2 < 0 ∨ 13 ≤ (v2.toNatClampNeg) then none else (
      if 13 ≤ gP σ (v2.toNatClampNeg) then none else (
      lt (gP σ (v2.toNatClampNeg)) (fun d4 =>
      if v1 < 0 ∨ 13 ≤ (v1.toNatClampNeg) then none else (
      if 13 ≤ gP σ (v1.toNatClampNeg) then none else (
      lt (gP σ (v1.toNatClampNeg)) (fun d7 =>
      bnd (f_X8_isBetter d4 d7 σ) (fun r8 σ9 =>
      if r8 = 0 then
        lt (v2 + 1) (fun x12 =>
        f_X8_isWorthHaving_7 n v1 x12 σ9)
      else
        some (.inl 0, σ9))))))))
set_option maxHeartbeats 4000000 in
set_option maxRecDepth 100000 in
theorem t_X8_isWorthHaving_7 {l : Launch} {D : va_G} {Y : CYs} {E : Nat → Nat} {p : Program} {e : Env} {s : State} {m : MethodId} {args : Array Value} {below : List Frame} {meth : Method} {c : Code} (hF : Fr p s m args meth c RX8 cX8_isWorthHaving 3 (some .boolean) D Y E LC) {o : (Int32 ⊕ String) × Sta} (ht : l.stackTraces = false) (htab : ∀ X u, o = (.inr X, u) → ∀ x ∈ c.exceptionTable.toList, False) : ∀ (n : Nat) (v1 : Int32) (v2 : Int32) (σ : Sta) (H : Heap) (locs : List Loc) (ls : Array Slot), f_X8_isWorthHaving_7 n v1 v2 σ = some o → va_P D vwCl (wd Y E σ 0 LC) H → va_S (AF E LC.length s.heap.size) s.heap H locs → lv_has ls 3 [(0, .ref (E 0)), (1, .int v1), (2, .int v2)] → W p l e (rmx 8 125 o) s m args below meth c H locs 0 0 (QmI below args s LC Y D E o) (F0 m 7 ls []) := by
  intro n
  induction n with
  | zero =>
    intro v1 v2 σ H locs ls h hP hS hl
    exact nomatch (show (none : Option ((Int32 ⊕ String) × Sta)) = some o from h)
  | succ n ih =>
    intro v1 v2 σ H locs ls h hP hS hl
    rw [f_X8_isWorthHaving_7] at h
    obtain ⟨hC, hb, hml, hr, hlk, hD, hSW⟩ := id hF
    have hx := hC.1
    refine lv_iload_n hx hb dX8_isWorthHaving_7 rfl (lv_at hl 2 rfl) ?_
    refine lv_aload_n hx hb dX8_isWorthHaving_8 rfl (lv_at hl 0 rfl) ?_
    refine gf_X8_132 hC hb hP dX8_isWorthHaving_9 ?_
    refine lv_icmp_ge (tgt := 42) hx hb dX8_isWorthHaving_12 (by decide) (fun c1 => ?_) (fun c1 => ?_)
    · have h := of_t h c1
      refine lv_iconst (v := 1) hx hb dX8_isWorthHaving_42 (by decide) ?_
      exact x_zretX hF hP hS rfl h dX8_isWorthHaving_43
    · have h := of_f h c1
      refine lv_aload_n hx hb dX8_isWorthHaving_15 rfl (lv_at hl 0 rfl) ?_
      refine lv_aload_n hx hb dX8_isWorthHaving_16 rfl (lv_at hl 0 rfl) ?_
      refine gf_X8_73 hC hb hP dX8_isWorthHaving_17 ?_
      refine lv_iload_n hx hb dX8_isWorthHaving_20 rfl (lv_at hl 2 rfl) ?_
      obtain ⟨g2, h⟩ := of_gd h
      obtain ⟨g3, h⟩ := of_gd h
      refine x_aald hC hb hP lc_10 g2 dX8_isWorthHaving_21 (fun d4 ed4 => ?_)
      have h := of_lt h ed4
      have hd4 : d4 < 13 := by rw [ed4]; exact Nat.lt_of_not_le g3
      refine lv_aload_n hx hb dX8_isWorthHaving_22 rfl (lv_at hl 0 rfl) ?_
      refine gf_X8_73 hC hb hP dX8_isWorthHaving_23 ?_
      refine lv_iload_n hx hb dX8_isWorthHaving_26 rfl (lv_at hl 1 rfl) ?_
      obtain ⟨g5, h⟩ := of_gd h
      obtain ⟨g6, h⟩ := of_gd h
      refine x_aald hC hb hP lc_10 g5 dX8_isWorthHaving_27 (fun d7 ed7 => ?_)
      have h := of_lt h ed7
      have hd7 : d7 < 13 := by rw [ed7]; exact Nat.lt_of_not_le g6
      obtain ⟨r8, σ9, g10, h⟩ := of_bnd h
      refine x_VI (As := [.ref (E (41 + 5 * d4)), .ref (E (41 + 5 * d7))]) (rest := []) hF hl hP hS (c_X8_isBetter hd4 hd7 g10) (cw_X8_225 hC rfl rfl ⟨Nat.le_of_ble_eq_true rfl, Nat.le_of_ble_eq_true rfl⟩) lc_0 rfl rfl rfl (Nat.le_of_ble_eq_true rfl) dX8_isWorthHaving_28 ⟨Nat.zero_le _, Nat.zero_le _⟩ (fun H locs hP hS => ?_)
      refine lv_if_eq (tgt := 36) hx hb dX8_isWorthHaving_31 (by decide) (fun c11 => ?_) (fun c11 => ?_)
      · have h := of_t h c11
        obtain ⟨x12, ex12⟩ : ∃ y : Int32, y = v2 + 1 := ⟨_, rfl⟩
        have h := of_lt h ex12
        refine lv_iinc (v := x12) (lv' := [(2, .int x12), (0, .ref (E 0)), (1, .int v1)]) hx hb dX8_isWorthHaving_36 hl (k := 2) rfl (by rw [ex12]; rfl) (by decide) rfl (fun ls hl => ?_)
        refine lv_goto (tgt := 7) hx hb dX8_isWorthHaving_39 (by decide) ?_
        exact ih v1 x12 σ9 _ _ _ h hP hS (lv_sub hl [1, 2, 0] rfl)
      · have h := of_f h c11
        refine lv_iconst (v := 0) hx hb dX8_isWorthHaving_34 (by decide) ?_
        exact x_zretX hF hP hS rfl h dX8_isWorthHaving_35

def f_X8_isWorthHaving (a1 : Int32) (σ : Sta) : Option ((Int32 ⊕ String) × Sta) :=
  bnx (f_X8_checkStrategy a1 σ) (fun _ σ2 =>
  f_X8_isWorthHaving_7 FU a1 0 σ2)
set_option maxHeartbeats 4000000 in
set_option maxRecDepth 100000 in
theorem c_X8_isWorthHaving {l : Launch} {D : va_G} {Y : CYs} {E : Nat → Nat} {a1 : Int32} (ht : l.stackTraces = false) {σ : Sta} {o : (Int32 ⊕ String) × Sta} (h : f_X8_isWorthHaving a1 σ = some o) : MXI l yX8_isWorthHaving (Cond.code yX8_isWorthHaving cX8_isWorthHaving 3 (some .boolean) :: gW) 8 125 LC Y D E [.ref (E 0), .int a1] σ o := by
  refine Met_ofXI (by decide) (Nat.le_of_ble_eq_true rfl) (fun p e s m args below meth c hF hP htab ls hl => ?_)
  have hS : va_S (AF E LC.length s.heap.size) s.heap s.heap [] := va_S.rf
  have hl : lv_has ls 3 [(0, .ref (E 0)), (1, .int a1)] := hl
  show W p l e (rmx 8 125 o) s m args below meth c s.heap [] 0 0 (QmI below args s LC Y D E o) (F0 m 0 ls [])
  unfold f_X8_isWorthHaving at h
  obtain ⟨hC, hb, hml, hr, hlk, hD, hSW⟩ := id hF
  have hx := hC.1
  refine lv_aload_n hx hb dX8_isWorthHaving_0 rfl (lv_at hl 0 rfl) ?_
  refine lv_iload_n hx hb dX8_isWorthHaving_1 rfl (lv_at hl 1 rfl) ?_
  rcases of_bnx h with ⟨r1, σ2, g3, h⟩ | ⟨X, σ2, g3, rfl⟩
  rotate_left
  · exact x_VT (As := [.int a1]) (rest := []) hF hl hP hS (c_X8_checkStrategy ht g3) (cw_X8_206 hC rfl rfl ⟨Nat.le_of_ble_eq_true rfl, Nat.le_of_ble_eq_true rfl⟩) lc_0 rfl rfl rfl (Nat.le_of_ble_eq_true rfl) dX8_isWorthHaving_2 ⟨Nat.le_refl _, Nat.le_refl _⟩ (htab _ _ rfl)
  refine x_VV (As := [.int a1]) (rest := []) hF hl hP hS (c_X8_checkStrategy ht g3) (cw_X8_206 hC rfl rfl ⟨Nat.le_of_ble_eq_true rfl, Nat.le_of_ble_eq_true rfl⟩) lc_0 rfl rfl rfl (Nat.le_of_ble_eq_true rfl) dX8_isWorthHaving_2 ⟨Nat.zero_le _, Nat.zero_le _⟩ (fun H locs hP hS => ?_)
  refine lv_iconst (v := 0) hx hb dX8_isWorthHaving_5 (by decide) ?_
  refine lv_istore_n (lv' := [(2, .int 0), (0, .ref (E 0)), (1, .int a1)]) hx hb dX8_isWorthHaving_6 rfl hl (by decide) rfl (fun ls hl => ?_)
  exact t_X8_isWorthHaving_7  hF ht htab FU a1 0 σ2 _ _ _ h hP hS (lv_sub hl [1, 2, 0] rfl)

def f_X8_checkOther (a1 : Int32) (a2 : Int32) (σ : Sta) : Option ((Unit ⊕ String) × Sta) :=
  if a1 = a2 then
    some (.inr eIAE, σ)
  else
    some (.inl (), σ)
set_option maxHeartbeats 4000000 in
set_option maxRecDepth 100000 in
theorem c_X8_checkOther {l : Launch} {D : va_G} {Y : CYs} {E : Nat → Nat} {a1 : Int32} {a2 : Int32} (ht : l.stackTraces = false) {σ : Sta} {o : (Unit ⊕ String) × Sta} (h : f_X8_checkOther a1 a2 σ = some o) : MXV l yX8_checkOther (Cond.code yX8_checkOther cX8_checkOther 3 none :: gW) 6 82 LC Y D E [.ref (E 0), .int a1, .int a2] σ o := by
  refine Met_ofXV (by decide) (Nat.le_of_ble_eq_true rfl) (fun p e s m args below meth c hF hP htab ls hl => ?_)
  have hS : va_S (AF E LC.length s.heap.size) s.heap s.heap [] := va_S.rf
  have hl : lv_has ls 3 [(0, .ref (E 0)), (1, .int a1), (2, .int a2)] := hl
  show W p l e (rmx 6 82 o) s m args below meth c s.heap [] 0 0 (QmV below args s LC Y D E o) (F0 m 0 ls [])
  unfold f_X8_checkOther at h
  obtain ⟨hC, hb, hml, hr, hlk, hD, hSW⟩ := id hF
  have hx := hC.1
  refine lv_iload_n hx hb dX8_checkOther_0 rfl (lv_at hl 1 rfl) ?_
  refine lv_iload_n hx hb dX8_checkOther_1 rfl (lv_at hl 2 rfl) ?_
  refine lv_icmp_ne (tgt := 16) hx hb dX8_checkOther_2 (by decide) (fun c1 => ?_) (fun c1 => ?_)
  · have h := of_f h c1
    exact x_vretX hF hP hS h dX8_checkOther_16
  · have h := of_t h c1
    cases h
    exact x_thrW ht hF hl hP hS twIAE (List.mem_of_getElem? (i := 3) rfl) (htab _ _ rfl) dX8_checkOther_5 dX8_checkOther_8 dX8_checkOther_9 dX8_checkOther_12 dX8_checkOther_15 ⟨Nat.le_of_ble_eq_true rfl, Nat.le_of_ble_eq_true rfl⟩ (Nat.le_refl _) (Nat.le_refl _)

abbrev rm_X8_isBroughtAlready : Room := { frames := 0, cells := 0, slots := 0, locals := 0 }
def f_X8_isBroughtAlready_58 (d1 : Nat) (k2 : Int32 → Int32 → Sta → Option (Int32 × Sta)) (k13 : Int32 → Int32 → Int32 → Int32 → Sta → Option (Int32 × Sta)) (v2 : Int32) (v3 : Int32) (v5 : Int32) (s0 : Int32) (σ : Sta) : Option (Int32 × Sta) :=
  lt (v5 + 1) (fun x1 =>
  k13 v2 v3 s0 x1 σ)
set_option maxHeartbeats 4000000 in
set_option maxRecDepth 100000 in
theorem t_X8_isBroughtAlready_58 {l : Launch} {D : va_G} {Y : CYs} {E : Nat → Nat} {p : Program} {e : Env} {s : State} {m : MethodId} {args : Array Value} {below : List Frame} {meth : Method} {c : Code} {d1 : Nat} (hd1 : d1 < 13) (hF : Fr p s m args meth c RX8 cX8_isBroughtAlready 6 (some .boolean) D Y E LC) {o : Int32 × Sta} (k2 : Int32 → Int32 → Sta → Option (Int32 × Sta)) (k13 : Int32 → Int32 → Int32 → Int32 → Sta → Option (Int32 × Sta)) (hk2 : ∀ (v2 : Int32) (v3 : Int32) (σ : Sta) (H : Heap) (locs : List Loc) (ls : Array Slot), k2 v2 v3 σ = some o → va_P D vwCl (wd Y E σ 0 LC) H → va_S (AF E LC.length s.heap.size) s.heap H locs → lv_has ls 6 [(0, .ref (E 0)), (1, .ref (E (41 + 5 * d1))), (2, .int v2), (3, .int v3)] → WI p l e rm_X8_isBroughtAlready s m args below meth c LC Y D E o H locs (F0 m 2 ls [])) (hk13 : ∀ (v2 : Int32) (v3 : Int32) (v4 : Int32) (v5 : Int32) (σ : Sta) (H : Heap) (locs : List Loc) (ls : Array Slot), k13 v2 v3 v4 v5 σ = some o → va_P D vwCl (wd Y E σ 0 LC) H → va_S (AF E LC.length s.heap.size) s.heap H locs → lv_has ls 6 [(0, .ref (E 0)), (1, .ref (E (41 + 5 * d1))), (2, .int v2), (3, .int v3), (4, .int v4), (5, .int v5)] → WI p l e rm_X8_isBroughtAlready s m args below meth c LC Y D E o H locs (F0 m 13 ls [])) : ∀ (v2 : Int32) (v3 : Int32) (v5 : Int32) (s0 : Int32) (σ : Sta) (H : Heap) (locs : List Loc) (ls : Array Slot), f_X8_isBroughtAlready_58 d1 k2 k13 v2 v3 v5 s0 σ = some o → va_P D vwCl (wd Y E σ 0 LC) H → va_S (AF E LC.length s.heap.size) s.heap H locs → lv_has ls 6 [(0, .ref (E 0)), (1, .ref (E (41 + 5 * d1))), (2, .int v2), (3, .int v3), (5, .int v5)] → WI p l e rm_X8_isBroughtAlready s m args below meth c LC Y D E o H locs (F0 m 58 ls [.int s0]) := by
  intro v2 v3 v5 s0 σ H locs ls h hP hS hl
  unfold f_X8_isBroughtAlready_58 at h
  obtain ⟨hC, hb, hml, hr, hlk, hD, hSW⟩ := id hF
  have hx := hC.1
  refine lv_istore (lv' := [(4, .int s0), (0, .ref (E 0)), (1, .ref (E (41 + 5 * d1))), (2, .int v2), (3, .int v3), (5, .int v5)]) hx hb dX8_isBroughtAlready_58 hl (by decide) rfl (fun ls hl => ?_)
  obtain ⟨x1, ex1⟩ : ∃ y : Int32, y = v5 + 1 := ⟨_, rfl⟩
  have h := of_lt h ex1
  refine lv_iinc (v := x1) (lv' := [(5, .int x1), (4, .int s0), (0, .ref (E 0)), (1, .ref (E (41 + 5 * d1))), (2, .int v2), (3, .int v3)]) hx hb dX8_isBroughtAlready_60 hl (k := 5) rfl (by rw [ex1]; rfl) (by decide) rfl (fun ls hl => ?_)
  refine lv_goto (tgt := 13) hx hb dX8_isBroughtAlready_63 (by decide) ?_
  exact hk13 v2 v3 s0 x1 σ _ _ _ h hP hS (lv_sub hl [2, 3, 4, 5, 1, 0] rfl)

def f_X8_isBroughtAlready_57 (d1 : Nat) (k2 : Int32 → Int32 → Sta → Option (Int32 × Sta)) (k13 : Int32 → Int32 → Int32 → Int32 → Sta → Option (Int32 × Sta)) (v2 : Int32) (v3 : Int32) (v5 : Int32) (σ : Sta) : Option (Int32 × Sta) :=
  f_X8_isBroughtAlready_58 d1 k2 k13 v2 v3 v5 0 σ
set_option maxHeartbeats 4000000 in
set_option maxRecDepth 100000 in
theorem t_X8_isBroughtAlready_57 {l : Launch} {D : va_G} {Y : CYs} {E : Nat → Nat} {p : Program} {e : Env} {s : State} {m : MethodId} {args : Array Value} {below : List Frame} {meth : Method} {c : Code} {d1 : Nat} (hd1 : d1 < 13) (hF : Fr p s m args meth c RX8 cX8_isBroughtAlready 6 (some .boolean) D Y E LC) {o : Int32 × Sta} (k2 : Int32 → Int32 → Sta → Option (Int32 × Sta)) (k13 : Int32 → Int32 → Int32 → Int32 → Sta → Option (Int32 × Sta)) (hk2 : ∀ (v2 : Int32) (v3 : Int32) (σ : Sta) (H : Heap) (locs : List Loc) (ls : Array Slot), k2 v2 v3 σ = some o → va_P D vwCl (wd Y E σ 0 LC) H → va_S (AF E LC.length s.heap.size) s.heap H locs → lv_has ls 6 [(0, .ref (E 0)), (1, .ref (E (41 + 5 * d1))), (2, .int v2), (3, .int v3)] → WI p l e rm_X8_isBroughtAlready s m args below meth c LC Y D E o H locs (F0 m 2 ls [])) (hk13 : ∀ (v2 : Int32) (v3 : Int32) (v4 : Int32) (v5 : Int32) (σ : Sta) (H : Heap) (locs : List Loc) (ls : Array Slot), k13 v2 v3 v4 v5 σ = some o → va_P D vwCl (wd Y E σ 0 LC) H → va_S (AF E LC.length s.heap.size) s.heap H locs → lv_has ls 6 [(0, .ref (E 0)), (1, .ref (E (41 + 5 * d1))), (2, .int v2), (3, .int v3), (4, .int v4), (5, .int v5)] → WI p l e rm_X8_isBroughtAlready s m args below meth c LC Y D E o H locs (F0 m 13 ls [])) : ∀ (v2 : Int32) (v3 : Int32) (v5 : Int32) (σ : Sta) (H : Heap) (locs : List Loc) (ls : Array Slot), f_X8_isBroughtAlready_57 d1 k2 k13 v2 v3 v5 σ = some o → va_P D vwCl (wd Y E σ 0 LC) H → va_S (AF E LC.length s.heap.size) s.heap H locs → lv_has ls 6 [(0, .ref (E 0)), (1, .ref (E (41 + 5 * d1))), (2, .int v2), (3, .int v3), (5, .int v5)] → WI p l e rm_X8_isBroughtAlready s m args below meth c LC Y D E o H locs (F0 m 57 ls []) := by
  intro v2 v3 v5 σ H locs ls h hP hS hl
  unfold f_X8_isBroughtAlready_57 at h
  obtain ⟨hC, hb, hml, hr, hlk, hD, hSW⟩ := id hF
  have hx := hC.1
  refine lv_iconst (v := 0) hx hb dX8_isBroughtAlready_57 (by decide) ?_
  exact t_X8_isBroughtAlready_58  hd1 hF k2 k13 hk2 hk13 v2 v3 v5 0 σ _ _ _ h hP hS (lv_sub hl [0, 1, 2, 3, 4] rfl)

def f_X8_isBroughtAlready_13 (d1 : Nat) (k2 : Int32 → Int32 → Sta → Option (Int32 × Sta)) : Nat → Int32 → Int32 → Int32 → Int32 → Sta → Option (Int32 × Sta)
  | 0, _, _, _, _, _ => none
  | n + 1, v2, v3, v4, v5, σ => if gI σ 197 ≤ v5 then
      if v4 = 0 then
        lt (v3 + 1) (fun x3 =>
        k2 v2 x3 σ)
      else
        some (1, σ)
    else
      if v4 = 0 then
        f_X8_isBroughtAlready_57 d1 k2 (f_X8_isBroughtAlready_13 d1 k2 n) v2 v3 v5 σ
      else
        if v3 < 0 ∨ 13 ≤ (v3.toNatClampNeg) then none else (
        if 13 ≤ gP σ (v3.toNatClampNeg) then none else (
        lt (gP σ (v3.toNatClampNeg)) (fun d7 =>
        if v5 < 0 ∨ 3 ≤ (v5.toNatClampNeg) then none else (
        if v5 < 0 ∨ 3 ≤ (v5.toNatClampNeg) then none else (
        if lg_cmp (gJ σ (41 + 5 * d7 + 4) (v5.toNatClampNeg)) (gJ σ (41 + 5 * d1 + 4) (v5.toNatClampNeg)) = 0 then
          f_X8_isBroughtAlready_58 d1 k2 (f_X8_isBroughtAlready_13 d1 k2 n) v2 v3 v5 1 σ
        else
          f_X8_isBroughtAlready_57 d1 k2 (f_X8_isBroughtAlready_13 d1 k2 n) v2 v3 v5 σ)))))
set_option maxHeartbeats 4000000 in
set_option maxRecDepth 100000 in
theorem t_X8_isBroughtAlready_13 {l : Launch} {D : va_G} {Y : CYs} {E : Nat → Nat} {p : Program} {e : Env} {s : State} {m : MethodId} {args : Array Value} {below : List Frame} {meth : Method} {c : Code} {d1 : Nat} (hd1 : d1 < 13) (hF : Fr p s m args meth c RX8 cX8_isBroughtAlready 6 (some .boolean) D Y E LC) {o : Int32 × Sta} (k2 : Int32 → Int32 → Sta → Option (Int32 × Sta)) (hk2 : ∀ (v2 : Int32) (v3 : Int32) (σ : Sta) (H : Heap) (locs : List Loc) (ls : Array Slot), k2 v2 v3 σ = some o → va_P D vwCl (wd Y E σ 0 LC) H → va_S (AF E LC.length s.heap.size) s.heap H locs → lv_has ls 6 [(0, .ref (E 0)), (1, .ref (E (41 + 5 * d1))), (2, .int v2), (3, .int v3)] → WI p l e rm_X8_isBroughtAlready s m args below meth c LC Y D E o H locs (F0 m 2 ls [])) : ∀ (n : Nat) (v2 : Int32) (v3 : Int32) (v4 : Int32) (v5 : Int32) (σ : Sta) (H : Heap) (locs : List Loc) (ls : Array Slot), f_X8_isBroughtAlready_13 d1 k2 n v2 v3 v4 v5 σ = some o → va_P D vwCl (wd Y E σ 0 LC) H → va_S (AF E LC.length s.heap.size) s.heap H locs → lv_has ls 6 [(0, .ref (E 0)), (1, .ref (E (41 + 5 * d1))), (2, .int v2), (3, .int v3), (4, .int v4), (5, .int v5)] → WI p l e rm_X8_isBroughtAlready s m args below meth c LC Y D E o H locs (F0 m 13 ls []) := by
  intro n
  induction n with
  | zero =>
    intro v2 v3 v4 v5 σ H locs ls h hP hS hl
    exact nomatch (show (none : Option (Int32 × Sta)) = some o from h)
  | succ n ih =>
    intro v2 v3 v4 v5 σ H locs ls h hP hS hl
    rw [f_X8_isBroughtAlready_13] at h
    obtain ⟨hC, hb, hml, hr, hlk, hD, hSW⟩ := id hF
    have hx := hC.1
    refine lv_iload hx hb dX8_isBroughtAlready_13 (lv_at hl 5 rfl) ?_
    refine lv_aload_n hx hb dX8_isBroughtAlready_15 rfl (lv_at hl 0 rfl) ?_
    refine gf_X8_30 hC hb hP dX8_isBroughtAlready_16 ?_
    refine gf_X8_123 hC hb hP dX8_isBroughtAlready_19 ?_
    refine lv_icmp_ge (tgt := 66) hx hb dX8_isBroughtAlready_22 (by decide) (fun c1 => ?_) (fun c1 => ?_)
    · have h := of_t h c1
      refine lv_iload hx hb dX8_isBroughtAlready_66 (lv_at hl 4 rfl) ?_
      refine lv_if_eq (tgt := 73) hx hb dX8_isBroughtAlready_68 (by decide) (fun c2 => ?_) (fun c2 => ?_)
      · have h := of_t h c2
        obtain ⟨x3, ex3⟩ : ∃ y : Int32, y = v3 + 1 := ⟨_, rfl⟩
        have h := of_lt h ex3
        refine lv_iinc (v := x3) (lv' := [(3, .int x3), (0, .ref (E 0)), (1, .ref (E (41 + 5 * d1))), (2, .int v2), (4, .int v4), (5, .int v5)]) hx hb dX8_isBroughtAlready_73 hl (k := 3) rfl (by rw [ex3]; rfl) (by decide) rfl (fun ls hl => ?_)
        refine lv_goto (tgt := 2) hx hb dX8_isBroughtAlready_76 (by decide) ?_
        exact hk2 v2 x3 σ _ _ _ h hP hS (lv_sub hl [1, 2, 3, 0] rfl)
      · have h := of_f h c2
        refine lv_iconst (v := 1) hx hb dX8_isBroughtAlready_71 (by decide) ?_
        exact x_zret hF hP hS rfl h dX8_isBroughtAlready_72
    · have h := of_f h c1
      refine lv_iload hx hb dX8_isBroughtAlready_25 (lv_at hl 4 rfl) ?_
      refine lv_if_eq (tgt := 57) hx hb dX8_isBroughtAlready_27 (by decide) (fun c4 => ?_) (fun c4 => ?_)
      · have h := of_t h c4
        exact t_X8_isBroughtAlready_57  hd1 hF k2 (f_X8_isBroughtAlready_13 d1 k2 n) hk2 ih v2 v3 v5 σ _ _ _ h hP hS (lv_sub hl [0, 1, 2, 3, 5] rfl)
      · have h := of_f h c4
        refine lv_aload_n hx hb dX8_isBroughtAlready_30 rfl (lv_at hl 0 rfl) ?_
        refine gf_X8_73 hC hb hP dX8_isBroughtAlready_31 ?_
        refine lv_iload_n hx hb dX8_isBroughtAlready_34 rfl (lv_at hl 3 rfl) ?_
        obtain ⟨g5, h⟩ := of_gd h
        obtain ⟨g6, h⟩ := of_gd h
        refine x_aald hC hb hP lc_10 g5 dX8_isBroughtAlready_35 (fun d7 ed7 => ?_)
        have h := of_lt h ed7
        have hd7 : d7 < 13 := by rw [ed7]; exact Nat.lt_of_not_le g6
        refine gf_X8_219 hC hb hP hd7 dX8_isBroughtAlready_36 ?_
        refine lv_iload hx hb dX8_isBroughtAlready_39 (lv_at hl 5 rfl) ?_
        obtain ⟨g8, h⟩ := of_gd h
        refine x_lald hC hb hP (lc_s4 hd7) g8 dX8_isBroughtAlready_41 ?_
        refine lv_aload_n hx hb dX8_isBroughtAlready_42 rfl (lv_at hl 1 rfl) ?_
        refine gf_X8_219 hC hb hP hd1 dX8_isBroughtAlready_43 ?_
        refine lv_iload hx hb dX8_isBroughtAlready_46 (lv_at hl 5 rfl) ?_
        obtain ⟨g9, h⟩ := of_gd h
        refine x_lald hC hb hP (lc_s4 hd1) g9 dX8_isBroughtAlready_48 ?_
        refine W.lcmp hx hb dX8_isBroughtAlready_49 ?_
        refine lv_if_ne (tgt := 57) hx hb dX8_isBroughtAlready_50 (by decide) (fun c10 => ?_) (fun c10 => ?_)
        · have h := of_f h c10
          exact t_X8_isBroughtAlready_57  hd1 hF k2 (f_X8_isBroughtAlready_13 d1 k2 n) hk2 ih v2 v3 v5 σ _ _ _ h hP hS (lv_sub hl [0, 1, 2, 3, 5] rfl)
        · have h := of_t h c10
          refine lv_iconst (v := 1) hx hb dX8_isBroughtAlready_53 (by decide) ?_
          refine lv_goto (tgt := 58) hx hb dX8_isBroughtAlready_54 (by decide) ?_
          exact t_X8_isBroughtAlready_58  hd1 hF k2 (f_X8_isBroughtAlready_13 d1 k2 n) hk2 ih v2 v3 v5 1 σ _ _ _ h hP hS (lv_sub hl [0, 1, 2, 3, 5] rfl)

def f_X8_isBroughtAlready_2 (d1 : Nat) : Nat → Int32 → Int32 → Sta → Option (Int32 × Sta)
  | 0, _, _, _ => none
  | n + 1, v2, v3, σ => if v2 ≤ v3 then
      some (0, σ)
    else
      f_X8_isBroughtAlready_13 d1 (f_X8_isBroughtAlready_2 d1 n) FU v2 v3 1 0 σ
set_option maxHeartbeats 4000000 in
set_option maxRecDepth 100000 in
theorem t_X8_isBroughtAlready_2 {l : Launch} {D : va_G} {Y : CYs} {E : Nat → Nat} {p : Program} {e : Env} {s : State} {m : MethodId} {args : Array Value} {below : List Frame} {meth : Method} {c : Code} {d1 : Nat} (hd1 : d1 < 13) (hF : Fr p s m args meth c RX8 cX8_isBroughtAlready 6 (some .boolean) D Y E LC) {o : Int32 × Sta} : ∀ (n : Nat) (v2 : Int32) (v3 : Int32) (σ : Sta) (H : Heap) (locs : List Loc) (ls : Array Slot), f_X8_isBroughtAlready_2 d1 n v2 v3 σ = some o → va_P D vwCl (wd Y E σ 0 LC) H → va_S (AF E LC.length s.heap.size) s.heap H locs → lv_has ls 6 [(0, .ref (E 0)), (1, .ref (E (41 + 5 * d1))), (2, .int v2), (3, .int v3)] → WI p l e rm_X8_isBroughtAlready s m args below meth c LC Y D E o H locs (F0 m 2 ls []) := by
  intro n
  induction n with
  | zero =>
    intro v2 v3 σ H locs ls h hP hS hl
    exact nomatch (show (none : Option (Int32 × Sta)) = some o from h)
  | succ n ih =>
    intro v2 v3 σ H locs ls h hP hS hl
    rw [f_X8_isBroughtAlready_2] at h
    obtain ⟨hC, hb, hml, hr, hlk, hD, hSW⟩ := id hF
    have hx := hC.1
    refine lv_iload_n hx hb dX8_isBroughtAlready_2 rfl (lv_at hl 3 rfl) ?_
    refine lv_iload_n hx hb dX8_isBroughtAlready_3 rfl (lv_at hl 2 rfl) ?_
    refine lv_icmp_ge (tgt := 79) hx hb dX8_isBroughtAlready_4 (by decide) (fun c1 => ?_) (fun c1 => ?_)
    · have h := of_t h c1
      refine lv_iconst (v := 0) hx hb dX8_isBroughtAlready_79 (by decide) ?_
      exact x_zret hF hP hS rfl h dX8_isBroughtAlready_80
    · have h := of_f h c1
      refine lv_iconst (v := 1) hx hb dX8_isBroughtAlready_7 (by decide) ?_
      refine lv_istore (lv' := [(4, .int 1), (0, .ref (E 0)), (1, .ref (E (41 + 5 * d1))), (2, .int v2), (3, .int v3)]) hx hb dX8_isBroughtAlready_8 hl (by decide) rfl (fun ls hl => ?_)
      refine lv_iconst (v := 0) hx hb dX8_isBroughtAlready_10 (by decide) ?_
      refine lv_istore (lv' := [(5, .int 0), (4, .int 1), (0, .ref (E 0)), (1, .ref (E (41 + 5 * d1))), (2, .int v2), (3, .int v3)]) hx hb dX8_isBroughtAlready_11 hl (by decide) rfl (fun ls hl => ?_)
      exact t_X8_isBroughtAlready_13  hd1 hF (f_X8_isBroughtAlready_2 d1 n) ih FU v2 v3 1 0 σ _ _ _ h hP hS (lv_sub hl [2, 3, 4, 5, 1, 0] rfl)

def f_X8_isBroughtAlready (d1 : Nat) (a2 : Int32) (σ : Sta) : Option (Int32 × Sta) :=
  f_X8_isBroughtAlready_2 d1 FU a2 0 σ
set_option maxHeartbeats 4000000 in
set_option maxRecDepth 100000 in
theorem c_X8_isBroughtAlready {l : Launch} {D : va_G} {Y : CYs} {E : Nat → Nat} {d1 : Nat} {a2 : Int32} (hd1 : d1 < 13) {σ : Sta} {o : Int32 × Sta} (h : f_X8_isBroughtAlready d1 a2 σ = some o) : MI l yX8_isBroughtAlready (Cond.code yX8_isBroughtAlready cX8_isBroughtAlready 6 (some .boolean) :: gW) rm_X8_isBroughtAlready LC Y D E [.ref (E 0), .ref (E (41 + 5 * d1)), .int a2] σ o := by
  intro sz
  refine Met_of (Qc := fun sz => QI LC Y D E sz o) (by decide) (Nat.le_of_ble_eq_true rfl) (fun p e s m args below meth c hF hP ls hl => ?_) sz
  have hS : va_S (AF E LC.length s.heap.size) s.heap s.heap [] := va_S.rf
  have hl : lv_has ls 6 [(0, .ref (E 0)), (1, .ref (E (41 + 5 * d1))), (2, .int a2)] := hl
  show WI p l e rm_X8_isBroughtAlready s m args below meth c LC Y D E o s.heap [] (F0 m 0 ls [])
  unfold f_X8_isBroughtAlready at h
  obtain ⟨hC, hb, hml, hr, hlk, hD, hSW⟩ := id hF
  have hx := hC.1
  refine lv_iconst (v := 0) hx hb dX8_isBroughtAlready_0 (by decide) ?_
  refine lv_istore_n (lv' := [(3, .int 0), (0, .ref (E 0)), (1, .ref (E (41 + 5 * d1))), (2, .int a2)]) hx hb dX8_isBroughtAlready_1 rfl hl (by decide) rfl (fun ls hl => ?_)
  exact t_X8_isBroughtAlready_2  hd1 hF FU a2 0 σ _ _ _ h hP hS (lv_sub hl [1, 2, 3, 0] rfl)

def f_X8_sweep_122 (k42 : Int32 → Int32 → Int32 → Int32 → Int32 → Int32 → Sta → Option ((Int32 ⊕ String) × Sta)) (v1 : Int32) (v2 : Int32) (v3 : Int32) (v4 : Int32) (v5 : Int32) (v6 : Int32) (σ : Sta) : Option ((Int32 ⊕ String) × Sta) :=
  lt (v6 + 1) (fun x1 =>
  k42 v1 v2 v3 v4 v5 x1 σ)
set_option maxHeartbeats 4000000 in
set_option maxRecDepth 100000 in
theorem t_X8_sweep_122 {l : Launch} {D : va_G} {Y : CYs} {E : Nat → Nat} {p : Program} {e : Env} {s : State} {m : MethodId} {args : Array Value} {below : List Frame} {meth : Method} {c : Code} (hF : Fr p s m args meth c RX8 cX8_sweep 8 (some .int) D Y E LC) {o : (Int32 ⊕ String) × Sta} (ht : l.stackTraces = false) (htab : ∀ X u, o = (.inr X, u) → ∀ x ∈ c.exceptionTable.toList, False) (k42 : Int32 → Int32 → Int32 → Int32 → Int32 → Int32 → Sta → Option ((Int32 ⊕ String) × Sta)) (hk42 : ∀ (v1 : Int32) (v2 : Int32) (v3 : Int32) (v4 : Int32) (v5 : Int32) (v6 : Int32) (σ : Sta) (H : Heap) (locs : List Loc) (ls : Array Slot), k42 v1 v2 v3 v4 v5 v6 σ = some o → va_P D vwCl (wd Y E σ 0 LC) H → va_S (AF E LC.length s.heap.size) s.heap H locs → lv_has ls 8 [(0, .ref (E 0)), (1, .int v1), (2, .int v2), (3, .int v3), (4, .int v4), (5, .int v5), (6, .int v6)] → W p l e (rmx 8 147 o) s m args below meth c H locs 0 0 (QmI below args s LC Y D E o) (F0 m 42 ls [])) : ∀ (v1 : Int32) (v2 : Int32) (v3 : Int32) (v4 : Int32) (v5 : Int32) (v6 : Int32) (σ : Sta) (H : Heap) (locs : List Loc) (ls : Array Slot), f_X8_sweep_122 k42 v1 v2 v3 v4 v5 v6 σ = some o → va_P D vwCl (wd Y E σ 0 LC) H → va_S (AF E LC.length s.heap.size) s.heap H locs → lv_has ls 8 [(0, .ref (E 0)), (1, .int v1), (2, .int v2), (3, .int v3), (4, .int v4), (5, .int v5), (6, .int v6)] → W p l e (rmx 8 147 o) s m args below meth c H locs 0 0 (QmI below args s LC Y D E o) (F0 m 122 ls []) := by
  intro v1 v2 v3 v4 v5 v6 σ H locs ls h hP hS hl
  unfold f_X8_sweep_122 at h
  obtain ⟨hC, hb, hml, hr, hlk, hD, hSW⟩ := id hF
  have hx := hC.1
  obtain ⟨x1, ex1⟩ : ∃ y : Int32, y = v6 + 1 := ⟨_, rfl⟩
  have h := of_lt h ex1
  refine lv_iinc (v := x1) (lv' := [(6, .int x1), (0, .ref (E 0)), (1, .int v1), (2, .int v2), (3, .int v3), (4, .int v4), (5, .int v5)]) hx hb dX8_sweep_122 hl (k := 6) rfl (by rw [ex1]; rfl) (by decide) rfl (fun ls hl => ?_)
  refine lv_goto (tgt := 42) hx hb dX8_sweep_125 (by decide) ?_
  exact hk42 v1 v2 v3 v4 v5 x1 σ _ _ _ h hP hS (lv_sub hl [1, 2, 3, 4, 5, 6, 0] rfl)

def f_X8_sweep_42 : Nat → Int32 → Int32 → Int32 → Int32 → Int32 → Int32 → Sta → Option ((Int32 ⊕ String) × Sta)
  | 0, _, _, _, _, _, _, _ => none
  | n + 1, v1, v2, v3, v4, v5, v6, σ => if v3 < v6 then
      lt (v5 - (gI σ 11)) (fun x2 =>
      lt (sI σ 11 v5) (fun σ3 =>
      some (.inl x2, σ3)))
    else
      if v5 < 0 ∨ 13 ≤ (v5.toNatClampNeg) then none else (
      if 13 ≤ gP σ (v5.toNatClampNeg) then none else (
      lt (gP σ (v5.toNatClampNeg)) (fun d6 =>
      bnd (f_J7_fill_53178 (41 + 5 * d6 + 1) 3 0 σ) (fun _ σ8 =>
      if v1 < 0 ∨ 3 ≤ (v1.toNatClampNeg) then none else (
      lt (sA σ8 (41 + 5 * d6 + 1) (upd (gA σ8 (41 + 5 * d6 + 1)) (v1.toNatClampNeg) v6)) (fun σ11 =>
      if v2 < 0 ∨ 3 ≤ (v2.toNatClampNeg) then none else (
      lt (sA σ11 (41 + 5 * d6 + 1) (upd (gA σ11 (41 + 5 * d6 + 1)) (v2.toNatClampNeg) (v3 - v6))) (fun σ13 =>
      lt (sI σ13 (64 * (41 + 5 * d6) + 1) v4) (fun σ14 =>
      bnd (f_X2_plan d6 σ14) (fun _ σ16 =>
      bnd (f_X8_isBroughtAlready d6 v5 σ16) (fun r18 σ19 =>
      if r18 = 0 then
        bnx (f_X8_checkRoom v5 σ19) (fun _ σ23 =>
        lt (v5 + 1) (fun x25 =>
        f_X8_sweep_122 (f_X8_sweep_42 n) v1 v2 v3 v4 x25 v6 σ23))
      else
        f_X8_sweep_122 (f_X8_sweep_42 n) v1 v2 v3 v4 v5 v6 σ19)))))))))))
set_option maxHeartbeats 4000000 in
set_option maxRecDepth 100000 in
theorem t_X8_sweep_42 {l : Launch} {D : va_G} {Y : CYs} {E : Nat → Nat} {p : Program} {e : Env} {s : State} {m : MethodId} {args : Array Value} {below : List Frame} {meth : Method} {c : Code} (hF : Fr p s m args meth c RX8 cX8_sweep 8 (some .int) D Y E LC) {o : (Int32 ⊕ String) × Sta} (ht : l.stackTraces = false) (htab : ∀ X u, o = (.inr X, u) → ∀ x ∈ c.exceptionTable.toList, False) : ∀ (n : Nat) (v1 : Int32) (v2 : Int32) (v3 : Int32) (v4 : Int32) (v5 : Int32) (v6 : Int32) (σ : Sta) (H : Heap) (locs : List Loc) (ls : Array Slot), f_X8_sweep_42 n v1 v2 v3 v4 v5 v6 σ = some o → va_P D vwCl (wd Y E σ 0 LC) H → va_S (AF E LC.length s.heap.size) s.heap H locs → lv_has ls 8 [(0, .ref (E 0)), (1, .int v1), (2, .int v2), (3, .int v3), (4, .int v4), (5, .int v5), (6, .int v6)] → W p l e (rmx 8 147 o) s m args below meth c H locs 0 0 (QmI below args s LC Y D E o) (F0 m 42 ls []) := by
  intro n
  induction n with
  | zero =>
    intro v1 v2 v3 v4 v5 v6 σ H locs ls h hP hS hl
    exact nomatch (show (none : Option ((Int32 ⊕ String) × Sta)) = some o from h)
  | succ n ih =>
    intro v1 v2 v3 v4 v5 v6 σ H locs ls h hP hS hl
    rw [f_X8_sweep_42] at h
    obtain ⟨hC, hb, hml, hr, hlk, hD, hSW⟩ := id hF
    have hx := hC.1
    refine lv_iload hx hb dX8_sweep_42 (lv_at hl 6 rfl) ?_
    refine lv_iload_n hx hb dX8_sweep_44 rfl (lv_at hl 3 rfl) ?_
    refine lv_icmp_gt (tgt := 128) hx hb dX8_sweep_45 (by decide) (fun c1 => ?_) (fun c1 => ?_)
    · have h := of_t h c1
      refine lv_iload hx hb dX8_sweep_128 (lv_at hl 5 rfl) ?_
      refine lv_aload_n hx hb dX8_sweep_130 rfl (lv_at hl 0 rfl) ?_
      refine gf_X8_132 hC hb hP dX8_sweep_131 ?_
      refine lv_isub hx hb dX8_sweep_134 ?_
      refine lv_topi (fun x2 ex2 => ?_)
      have h := of_lt h ex2
      refine lv_istore (lv' := [(6, .int x2), (0, .ref (E 0)), (1, .int v1), (2, .int v2), (3, .int v3), (4, .int v4), (5, .int v5)]) hx hb dX8_sweep_135 hl (by decide) rfl (fun ls hl => ?_)
      refine lv_aload_n hx hb dX8_sweep_137 rfl (lv_at hl 1 rfl) ?_
      refine lv_iload hx hb dX8_sweep_138 (lv_at hl 6 rfl) ?_
      refine pf_X8_132 hC hb hP hD hS dX8_sweep_140 (fun H locs σ3 eσ3 hP hS => ?_)
      have h := of_lt h eσ3
      refine lv_iload hx hb dX8_sweep_143 (lv_at hl 0 rfl) ?_
      exact x_iretX hF hP hS h dX8_sweep_145
    · have h := of_f h c1
      refine lv_aload_n hx hb dX8_sweep_48 rfl (lv_at hl 0 rfl) ?_
      refine gf_X8_73 hC hb hP dX8_sweep_49 ?_
      refine lv_iload hx hb dX8_sweep_52 (lv_at hl 5 rfl) ?_
      obtain ⟨g4, h⟩ := of_gd h
      obtain ⟨g5, h⟩ := of_gd h
      refine x_aald hC hb hP lc_10 g4 dX8_sweep_54 (fun d6 ed6 => ?_)
      have h := of_lt h ed6
      have hd6 : d6 < 13 := by rw [ed6]; exact Nat.lt_of_not_le g5
      refine lv_astore (lv' := [(7, .ref (E (41 + 5 * d6))), (0, .ref (E 0)), (1, .int v1), (2, .int v2), (3, .int v3), (4, .int v4), (5, .int v5), (6, .int v6)]) hx hb dX8_sweep_55 hl (by decide) rfl (fun ls hl => ?_)
      refine lv_aload hx hb dX8_sweep_57 (lv_at hl 0 rfl) ?_
      refine gf_X8_198 hC hb hP hd6 dX8_sweep_59 ?_
      refine lv_iconst (v := 0) hx hb dX8_sweep_62 (by decide) ?_
      obtain ⟨r7, σ8, g9, h⟩ := of_bnd h
      refine x_SV (As := [.ref (E (41 + 5 * d6 + 1)), .int 0]) (rest := []) hF hl hP hS (c_J7_fill_53178 lokC (lc_s1 hd6) g9) (cw_X8_232 hC rfl rfl ⟨Nat.le_of_ble_eq_true rfl, Nat.le_of_ble_eq_true rfl⟩) rfl rfl (Nat.le_of_ble_eq_true rfl) dX8_sweep_63 ⟨Nat.zero_le _, Nat.zero_le _⟩ (fun H locs hP hS => ?_)
      refine lv_aload hx hb dX8_sweep_66 (lv_at hl 0 rfl) ?_
      refine gf_X8_198 hC hb hP hd6 dX8_sweep_68 ?_
      refine lv_iload_n hx hb dX8_sweep_71 rfl (lv_at hl 2 rfl) ?_
      refine lv_iload hx hb dX8_sweep_72 (lv_at hl 7 rfl) ?_
      obtain ⟨g10, h⟩ := of_gd h
      refine x_iast lokC hC hb hP hD hS (lc_s1 hd6) g10 dX8_sweep_74 (fun H locs σ11 eσ11 hP hS => ?_)
      have h := of_lt h eσ11
      refine lv_aload hx hb dX8_sweep_75 (lv_at hl 0 rfl) ?_
      refine gf_X8_198 hC hb hP hd6 dX8_sweep_77 ?_
      refine lv_iload_n hx hb dX8_sweep_80 rfl (lv_at hl 3 rfl) ?_
      refine lv_iload_n hx hb dX8_sweep_81 rfl (lv_at hl 4 rfl) ?_
      refine lv_iload hx hb dX8_sweep_82 (lv_at hl 7 rfl) ?_
      refine lv_isub hx hb dX8_sweep_84 ?_
      obtain ⟨g12, h⟩ := of_gd h
      refine x_iast lokC hC hb hP hD hS (lc_s1 hd6) g12 dX8_sweep_85 (fun H locs σ13 eσ13 hP hS => ?_)
      have h := of_lt h eσ13
      refine lv_aload hx hb dX8_sweep_86 (lv_at hl 0 rfl) ?_
      refine lv_iload hx hb dX8_sweep_88 (lv_at hl 5 rfl) ?_
      refine pf_X8_199 hC hb hP hD hS hd6 dX8_sweep_90 (fun H locs σ14 eσ14 hP hS => ?_)
      have h := of_lt h eσ14
      refine lv_aload_n hx hb dX8_sweep_93 rfl (lv_at hl 1 rfl) ?_
      refine gf_X8_57 hC hb hP dX8_sweep_94 ?_
      refine lv_aload hx hb dX8_sweep_97 (lv_at hl 0 rfl) ?_
      obtain ⟨r15, σ16, g17, h⟩ := of_bnd h
      refine x_VV (As := [.ref (E (41 + 5 * d6))]) (rest := []) hF hl hP hS (c_X2_plan hd6 g17) (cw_X8_202 hC rfl rfl ⟨Nat.le_of_ble_eq_true rfl, Nat.le_of_ble_eq_true rfl⟩) lc_6 rfl rfl rfl (Nat.le_of_ble_eq_true rfl) dX8_sweep_99 ⟨Nat.zero_le _, Nat.zero_le _⟩ (fun H locs hP hS => ?_)
      refine lv_aload_n hx hb dX8_sweep_102 rfl (lv_at hl 1 rfl) ?_
      refine lv_aload hx hb dX8_sweep_103 (lv_at hl 0 rfl) ?_
      refine lv_iload hx hb dX8_sweep_105 (lv_at hl 6 rfl) ?_
      obtain ⟨r18, σ19, g20, h⟩ := of_bnd h
      refine x_VI (As := [.ref (E (41 + 5 * d6)), .int v5]) (rest := []) hF hl hP hS (c_X8_isBroughtAlready hd6 g20) (cw_X8_237 hC rfl rfl ⟨Nat.le_of_ble_eq_true rfl, Nat.le_of_ble_eq_true rfl⟩) lc_0 rfl rfl rfl (Nat.le_of_ble_eq_true rfl) dX8_sweep_107 ⟨Nat.zero_le _, Nat.zero_le _⟩ (fun H locs hP hS => ?_)
      refine lv_if_ne (tgt := 122) hx hb dX8_sweep_110 (by decide) (fun c21 => ?_) (fun c21 => ?_)
      · have h := of_f h c21
        exact t_X8_sweep_122  hF ht htab (f_X8_sweep_42 n) ih v1 v2 v3 v4 v5 v6 σ19 _ _ _ h hP hS (lv_sub hl [1, 2, 3, 4, 5, 6, 7] rfl)
      · have h := of_t h c21
        refine lv_aload_n hx hb dX8_sweep_113 rfl (lv_at hl 1 rfl) ?_
        refine lv_iload hx hb dX8_sweep_114 (lv_at hl 6 rfl) ?_
        rcases of_bnx h with ⟨r22, σ23, g24, h⟩ | ⟨X, σ23, g24, rfl⟩
        rotate_left
        · exact x_VT (As := [.int v5]) (rest := []) hF hl hP hS (c_X8_checkRoom ht g24) (cw_X8_195 hC rfl rfl ⟨Nat.le_of_ble_eq_true rfl, Nat.le_of_ble_eq_true rfl⟩) lc_0 rfl rfl rfl (Nat.le_of_ble_eq_true rfl) dX8_sweep_116 ⟨Nat.le_refl _, Nat.le_refl _⟩ (htab _ _ rfl)
        refine x_VV (As := [.int v5]) (rest := []) hF hl hP hS (c_X8_checkRoom ht g24) (cw_X8_195 hC rfl rfl ⟨Nat.le_of_ble_eq_true rfl, Nat.le_of_ble_eq_true rfl⟩) lc_0 rfl rfl rfl (Nat.le_of_ble_eq_true rfl) dX8_sweep_116 ⟨Nat.zero_le _, Nat.zero_le _⟩ (fun H locs hP hS => ?_)
        obtain ⟨x25, ex25⟩ : ∃ y : Int32, y = v5 + 1 := ⟨_, rfl⟩
        have h := of_lt h ex25
        refine lv_iinc (v := x25) (lv' := [(5, .int x25), (7, .ref (E (41 + 5 * d6))), (0, .ref (E 0)), (1, .int v1), (2, .int v2), (3, .int v3), (4, .int v4), (6, .int v6)]) hx hb dX8_sweep_119 hl (k := 6) rfl (by rw [ex25]; rfl) (by decide) rfl (fun ls hl => ?_)
        exact t_X8_sweep_122  hF ht htab (f_X8_sweep_42 n) ih v1 v2 v3 v4 x25 v6 σ23 _ _ _ h hP hS (lv_sub hl [2, 3, 4, 5, 6, 0, 7] rfl)

def f_X8_sweep (a1 : Int32) (a2 : Int32) (a3 : Int32) (a4 : Int32) (σ : Sta) : Option ((Int32 ⊕ String) × Sta) :=
  bnx (f_X8_checkGain a1 σ) (fun _ σ2 =>
  bnx (f_X8_checkGain a2 σ2) (fun _ σ5 =>
  bnx (f_X8_checkOther a1 a2 σ5) (fun _ σ8 =>
  bnx (f_X8_checkRange a3 1 9 σ8) (fun _ σ11 =>
  bnx (f_X8_checkRange a4 1 30 σ11) (fun _ σ14 =>
  lt (gI σ14 11) (fun x16 =>
  f_X8_sweep_42 FU a1 a2 a3 a4 x16 0 σ14))))))
set_option maxHeartbeats 4000000 in
set_option maxRecDepth 100000 in
theorem c_X8_sweep {l : Launch} {D : va_G} {Y : CYs} {E : Nat → Nat} {a1 : Int32} {a2 : Int32} {a3 : Int32} {a4 : Int32} (ht : l.stackTraces = false) {σ : Sta} {o : (Int32 ⊕ String) × Sta} (h : f_X8_sweep a1 a2 a3 a4 σ = some o) : MXI l yX8_sweep (Cond.code yX8_sweep cX8_sweep 8 (some .int) :: gW) 8 147 LC Y D E [.ref (E 0), .int a1, .int a2, .int a3, .int a4] σ o := by
  refine Met_ofXI (by decide) (Nat.le_of_ble_eq_true rfl) (fun p e s m args below meth c hF hP htab ls hl => ?_)
  have hS : va_S (AF E LC.length s.heap.size) s.heap s.heap [] := va_S.rf
  have hl : lv_has ls 8 [(0, .ref (E 0)), (1, .int a1), (2, .int a2), (3, .int a3), (4, .int a4)] := hl
  show W p l e (rmx 8 147 o) s m args below meth c s.heap [] 0 0 (QmI below args s LC Y D E o) (F0 m 0 ls [])
  unfold f_X8_sweep at h
  obtain ⟨hC, hb, hml, hr, hlk, hD, hSW⟩ := id hF
  have hx := hC.1
  refine lv_aload_n hx hb dX8_sweep_0 rfl (lv_at hl 0 rfl) ?_
  refine lv_iload_n hx hb dX8_sweep_1 rfl (lv_at hl 1 rfl) ?_
  rcases of_bnx h with ⟨r1, σ2, g3, h⟩ | ⟨X, σ2, g3, rfl⟩
  rotate_left
  · exact x_VT (As := [.int a1]) (rest := []) hF hl hP hS (c_X8_checkGain ht g3) (cw_X8_178 hC rfl rfl ⟨Nat.le_of_ble_eq_true rfl, Nat.le_of_ble_eq_true rfl⟩) lc_0 rfl rfl rfl (Nat.le_of_ble_eq_true rfl) dX8_sweep_2 ⟨Nat.le_refl _, Nat.le_refl _⟩ (htab _ _ rfl)
  refine x_VV (As := [.int a1]) (rest := []) hF hl hP hS (c_X8_checkGain ht g3) (cw_X8_178 hC rfl rfl ⟨Nat.le_of_ble_eq_true rfl, Nat.le_of_ble_eq_true rfl⟩) lc_0 rfl rfl rfl (Nat.le_of_ble_eq_true rfl) dX8_sweep_2 ⟨Nat.zero_le _, Nat.zero_le _⟩ (fun H locs hP hS => ?_)
  refine lv_aload_n hx hb dX8_sweep_5 rfl (lv_at hl 0 rfl) ?_
  refine lv_iload_n hx hb dX8_sweep_6 rfl (lv_at hl 2 rfl) ?_
  rcases of_bnx h with ⟨r4, σ5, g6, h⟩ | ⟨X, σ5, g6, rfl⟩
  rotate_left
  · exact x_VT (As := [.int a2]) (rest := []) hF hl hP hS (c_X8_checkGain ht g6) (cw_X8_178 hC rfl rfl ⟨Nat.le_of_ble_eq_true rfl, Nat.le_of_ble_eq_true rfl⟩) lc_0 rfl rfl rfl (Nat.le_of_ble_eq_true rfl) dX8_sweep_7 ⟨Nat.le_refl _, Nat.le_refl _⟩ (htab _ _ rfl)
  refine x_VV (As := [.int a2]) (rest := []) hF hl hP hS (c_X8_checkGain ht g6) (cw_X8_178 hC rfl rfl ⟨Nat.le_of_ble_eq_true rfl, Nat.le_of_ble_eq_true rfl⟩) lc_0 rfl rfl rfl (Nat.le_of_ble_eq_true rfl) dX8_sweep_7 ⟨Nat.zero_le _, Nat.zero_le _⟩ (fun H locs hP hS => ?_)
  refine lv_aload_n hx hb dX8_sweep_10 rfl (lv_at hl 0 rfl) ?_
  refine lv_iload_n hx hb dX8_sweep_11 rfl (lv_at hl 1 rfl) ?_
  refine lv_iload_n hx hb dX8_sweep_12 rfl (lv_at hl 2 rfl) ?_
  rcases of_bnx h with ⟨r7, σ8, g9, h⟩ | ⟨X, σ8, g9, rfl⟩
  rotate_left
  · exact x_VT (As := [.int a1, .int a2]) (rest := []) hF hl hP hS (c_X8_checkOther ht g9) (cw_X8_229 hC rfl rfl ⟨Nat.le_of_ble_eq_true rfl, Nat.le_of_ble_eq_true rfl⟩) lc_0 rfl rfl rfl (Nat.le_of_ble_eq_true rfl) dX8_sweep_13 ⟨Nat.le_refl _, Nat.le_refl _⟩ (htab _ _ rfl)
  refine x_VV (As := [.int a1, .int a2]) (rest := []) hF hl hP hS (c_X8_checkOther ht g9) (cw_X8_229 hC rfl rfl ⟨Nat.le_of_ble_eq_true rfl, Nat.le_of_ble_eq_true rfl⟩) lc_0 rfl rfl rfl (Nat.le_of_ble_eq_true rfl) dX8_sweep_13 ⟨Nat.zero_le _, Nat.zero_le _⟩ (fun H locs hP hS => ?_)
  refine lv_aload_n hx hb dX8_sweep_16 rfl (lv_at hl 0 rfl) ?_
  refine lv_iload_n hx hb dX8_sweep_17 rfl (lv_at hl 3 rfl) ?_
  refine lv_iconst (v := 1) hx hb dX8_sweep_18 (by decide) ?_
  refine lv_bipush (v := 9) hx hb dX8_sweep_19 (by decide) ?_
  rcases of_bnx h with ⟨r10, σ11, g12, h⟩ | ⟨X, σ11, g12, rfl⟩
  rotate_left
  · exact x_VT (As := [.int a3, .int 1, .int 9]) (rest := []) hF hl hP hS (c_X8_checkRange ht g12) (cw_X8_96 hC rfl rfl ⟨Nat.le_of_ble_eq_true rfl, Nat.le_of_ble_eq_true rfl⟩) lc_0 rfl rfl rfl (Nat.le_of_ble_eq_true rfl) dX8_sweep_21 ⟨Nat.le_refl _, Nat.le_refl _⟩ (htab _ _ rfl)
  refine x_VV (As := [.int a3, .int 1, .int 9]) (rest := []) hF hl hP hS (c_X8_checkRange ht g12) (cw_X8_96 hC rfl rfl ⟨Nat.le_of_ble_eq_true rfl, Nat.le_of_ble_eq_true rfl⟩) lc_0 rfl rfl rfl (Nat.le_of_ble_eq_true rfl) dX8_sweep_21 ⟨Nat.zero_le _, Nat.zero_le _⟩ (fun H locs hP hS => ?_)
  refine lv_aload_n hx hb dX8_sweep_24 rfl (lv_at hl 0 rfl) ?_
  refine lv_iload hx hb dX8_sweep_25 (lv_at hl 4 rfl) ?_
  refine lv_iconst (v := 1) hx hb dX8_sweep_27 (by decide) ?_
  refine lv_bipush (v := 30) hx hb dX8_sweep_28 (by decide) ?_
  rcases of_bnx h with ⟨r13, σ14, g15, h⟩ | ⟨X, σ14, g15, rfl⟩
  rotate_left
  · exact x_VT (As := [.int a4, .int 1, .int 30]) (rest := []) hF hl hP hS (c_X8_checkRange ht g15) (cw_X8_96 hC rfl rfl ⟨Nat.le_of_ble_eq_true rfl, Nat.le_of_ble_eq_true rfl⟩) lc_0 rfl rfl rfl (Nat.le_of_ble_eq_true rfl) dX8_sweep_30 ⟨Nat.le_refl _, Nat.le_refl _⟩ (htab _ _ rfl)
  refine x_VV (As := [.int a4, .int 1, .int 30]) (rest := []) hF hl hP hS (c_X8_checkRange ht g15) (cw_X8_96 hC rfl rfl ⟨Nat.le_of_ble_eq_true rfl, Nat.le_of_ble_eq_true rfl⟩) lc_0 rfl rfl rfl (Nat.le_of_ble_eq_true rfl) dX8_sweep_30 ⟨Nat.zero_le _, Nat.zero_le _⟩ (fun H locs hP hS => ?_)
  refine lv_aload_n hx hb dX8_sweep_33 rfl (lv_at hl 0 rfl) ?_
  refine gf_X8_132 hC hb hP dX8_sweep_34 ?_
  refine lv_topi (fun x16 ex16 => ?_)
  have h := of_lt h ex16
  refine lv_istore (lv' := [(5, .int x16), (0, .ref (E 0)), (1, .int a1), (2, .int a2), (3, .int a3), (4, .int a4)]) hx hb dX8_sweep_37 hl (by decide) rfl (fun ls hl => ?_)
  refine lv_iconst (v := 0) hx hb dX8_sweep_39 (by decide) ?_
  refine lv_istore (lv' := [(6, .int 0), (5, .int x16), (0, .ref (E 0)), (1, .int a1), (2, .int a2), (3, .int a3), (4, .int a4)]) hx hb dX8_sweep_40 hl (by decide) rfl (fun ls hl => ?_)
  exact t_X8_sweep_42  hF ht htab FU a1 a2 a3 a4 x16 0 σ14 _ _ _ h hP hS (lv_sub hl [2, 3, 4, 5, 6, 1, 0] rfl)

abbrev rm_X8_mixed : Room := { frames := 0, cells := 0, slots := 0, locals := 0 }
def f_X8_mixed (a1 : Int32) (a2 : Int32) (a3 : Int32) (a4 : Int32) (σ : Sta) : Option (Int64 × Sta) :=
  if a1 < 0 ∨ 13 ≤ (a1.toNatClampNeg) then none else (
  if 13 ≤ gP σ (a1.toNatClampNeg) then none else (
  lt (gP σ (a1.toNatClampNeg)) (fun d3 =>
  if a4 < 0 ∨ 3 ≤ (a4.toNatClampNeg) then none else (
  lt (gJ σ (41 + 5 * d3 + 4) (a4.toNatClampNeg)) (fun x5 =>
  if a2 < 0 ∨ 13 ≤ (a2.toNatClampNeg) then none else (
  if 13 ≤ gP σ (a2.toNatClampNeg) then none else (
  lt (gP σ (a2.toNatClampNeg)) (fun d8 =>
  if a4 < 0 ∨ 3 ≤ (a4.toNatClampNeg) then none else (
  lt (gJ σ (41 + 5 * d8 + 4) (a4.toNatClampNeg)) (fun x10 =>
  some (((a3.toInt64 * x5) + (((100 - a3).toInt64) * x10)) / 100, σ)))))))))))
set_option maxHeartbeats 4000000 in
set_option maxRecDepth 100000 in
theorem c_X8_mixed {l : Launch} {D : va_G} {Y : CYs} {E : Nat → Nat} {a1 : Int32} {a2 : Int32} {a3 : Int32} {a4 : Int32} {σ : Sta} {o : Int64 × Sta} (h : f_X8_mixed a1 a2 a3 a4 σ = some o) : ML l yX8_mixed (Cond.code yX8_mixed cX8_mixed 9 (some .long) :: gW) rm_X8_mixed LC Y D E [.ref (E 0), .int a1, .int a2, .int a3, .int a4] σ o := by
  intro sz
  refine Met_of (Qc := fun sz => QL LC Y D E sz o) (by decide) (Nat.le_of_ble_eq_true rfl) (fun p e s m args below meth c hF hP ls hl => ?_) sz
  have hS : va_S (AF E LC.length s.heap.size) s.heap s.heap [] := va_S.rf
  have hl : lv_has ls 9 [(0, .ref (E 0)), (1, .int a1), (2, .int a2), (3, .int a3), (4, .int a4)] := hl
  show WL p l e rm_X8_mixed s m args below meth c LC Y D E o s.heap [] (F0 m 0 ls [])
  unfold f_X8_mixed at h
  obtain ⟨hC, hb, hml, hr, hlk, hD, hSW⟩ := id hF
  have hx := hC.1
  refine lv_aload_n hx hb dX8_mixed_0 rfl (lv_at hl 0 rfl) ?_
  refine gf_X8_73 hC hb hP dX8_mixed_1 ?_
  refine lv_iload_n hx hb dX8_mixed_4 rfl (lv_at hl 1 rfl) ?_
  obtain ⟨g1, h⟩ := of_gd h
  obtain ⟨g2, h⟩ := of_gd h
  refine x_aald hC hb hP lc_10 g1 dX8_mixed_5 (fun d3 ed3 => ?_)
  have h := of_lt h ed3
  have hd3 : d3 < 13 := by rw [ed3]; exact Nat.lt_of_not_le g2
  refine gf_X8_219 hC hb hP hd3 dX8_mixed_6 ?_
  refine lv_iload hx hb dX8_mixed_9 (lv_at hl 4 rfl) ?_
  obtain ⟨g4, h⟩ := of_gd h
  refine x_lald hC hb hP (lc_s4 hd3) g4 dX8_mixed_11 ?_
  refine lv_topl (fun x5 ex5 => ?_)
  have h := of_lt h ex5
  refine lv_lstore (lv' := [(5, .long x5), (0, .ref (E 0)), (1, .int a1), (2, .int a2), (3, .int a3), (4, .int a4)]) hx hb dX8_mixed_12 hl (by decide) rfl (fun ls hl => ?_)
  refine lv_aload_n hx hb dX8_mixed_14 rfl (lv_at hl 1 rfl) ?_
  refine gf_X8_73 hC hb hP dX8_mixed_15 ?_
  refine lv_iload_n hx hb dX8_mixed_18 rfl (lv_at hl 3 rfl) ?_
  obtain ⟨g6, h⟩ := of_gd h
  obtain ⟨g7, h⟩ := of_gd h
  refine x_aald hC hb hP lc_10 g6 dX8_mixed_19 (fun d8 ed8 => ?_)
  have h := of_lt h ed8
  have hd8 : d8 < 13 := by rw [ed8]; exact Nat.lt_of_not_le g7
  refine gf_X8_219 hC hb hP hd8 dX8_mixed_20 ?_
  refine lv_iload hx hb dX8_mixed_23 (lv_at hl 5 rfl) ?_
  obtain ⟨g9, h⟩ := of_gd h
  refine x_lald hC hb hP (lc_s4 hd8) g9 dX8_mixed_25 ?_
  refine lv_topl (fun x10 ex10 => ?_)
  have h := of_lt h ex10
  refine lv_lstore (lv' := [(7, .long x10), (5, .long x5), (0, .ref (E 0)), (1, .int a1), (2, .int a2), (3, .int a3), (4, .int a4)]) hx hb dX8_mixed_26 hl (by decide) rfl (fun ls hl => ?_)
  refine lv_iload_n hx hb dX8_mixed_28 rfl (lv_at hl 5 rfl) ?_
  refine lv_i2l (v := a3.toInt64) hx hb dX8_mixed_29 rfl ?_
  refine lv_lload hx hb dX8_mixed_30 (lv_at hl 1 rfl) ?_
  refine lv_lmul hx hb dX8_mixed_32 ?_
  refine lv_bipush (v := 100) hx hb dX8_mixed_33 (by decide) ?_
  refine lv_iload_n hx hb dX8_mixed_35 rfl (lv_at hl 5 rfl) ?_
  refine lv_isub hx hb dX8_mixed_36 ?_
  refine lv_i2l (v := (100 - a3).toInt64) hx hb dX8_mixed_37 rfl ?_
  refine lv_lload hx hb dX8_mixed_38 (lv_at hl 0 rfl) ?_
  refine lv_lmul hx hb dX8_mixed_40 ?_
  refine lv_ladd hx hb dX8_mixed_41 ?_
  refine lv_ldc2 (v := 100) hx hb hC.2.2.1 (hC.2.1 (Cond.constantLong RX8 277 100) (gw_t (tb5 (List.mem_of_getElem? (i := 201) rfl)) rfl)) dX8_mixed_42 ?_
  refine lv_ldiv hx hb dX8_mixed_45 (by decide) ?_
  exact x_lret hF hP hS h dX8_mixed_46

def f_X8_mix (a1 : Int32) (a2 : Int32) (a3 : Int32) (a4 : Int32) (σ : Sta) : Option ((Int64 ⊕ String) × Sta) :=
  bnx (f_X8_checkStrategy a1 σ) (fun _ σ2 =>
  bnx (f_X8_checkStrategy a2 σ2) (fun _ σ5 =>
  bnx (f_X8_checkGain a4 σ5) (fun _ σ8 =>
  bnx (f_X8_checkRange a3 0 100 σ8) (fun _ σ11 =>
  bnd (f_X8_mixed a1 a2 a3 a4 σ11) (fun r13 σ14 =>
  some (.inl r13, σ14))))))
set_option maxHeartbeats 4000000 in
set_option maxRecDepth 100000 in
theorem c_X8_mix {l : Launch} {D : va_G} {Y : CYs} {E : Nat → Nat} {a1 : Int32} {a2 : Int32} {a3 : Int32} {a4 : Int32} (ht : l.stackTraces = false) {σ : Sta} {o : (Int64 ⊕ String) × Sta} (h : f_X8_mix a1 a2 a3 a4 σ = some o) : MXL l yX8_mix (Cond.code yX8_mix cX8_mix 5 (some .long) :: gW) 8 125 LC Y D E [.ref (E 0), .int a1, .int a2, .int a3, .int a4] σ o := by
  refine Met_ofXL (by decide) (Nat.le_of_ble_eq_true rfl) (fun p e s m args below meth c hF hP htab ls hl => ?_)
  have hS : va_S (AF E LC.length s.heap.size) s.heap s.heap [] := va_S.rf
  have hl : lv_has ls 5 [(0, .ref (E 0)), (1, .int a1), (2, .int a2), (3, .int a3), (4, .int a4)] := hl
  show W p l e (rmx 8 125 o) s m args below meth c s.heap [] 0 0 (QmL below args s LC Y D E o) (F0 m 0 ls [])
  unfold f_X8_mix at h
  obtain ⟨hC, hb, hml, hr, hlk, hD, hSW⟩ := id hF
  have hx := hC.1
  refine lv_aload_n hx hb dX8_mix_0 rfl (lv_at hl 0 rfl) ?_
  refine lv_iload_n hx hb dX8_mix_1 rfl (lv_at hl 1 rfl) ?_
  rcases of_bnx h with ⟨r1, σ2, g3, h⟩ | ⟨X, σ2, g3, rfl⟩
  rotate_left
  · exact x_VT (As := [.int a1]) (rest := []) hF hl hP hS (c_X8_checkStrategy ht g3) (cw_X8_206 hC rfl rfl ⟨Nat.le_of_ble_eq_true rfl, Nat.le_of_ble_eq_true rfl⟩) lc_0 rfl rfl rfl (Nat.le_of_ble_eq_true rfl) dX8_mix_2 ⟨Nat.le_refl _, Nat.le_refl _⟩ (htab _ _ rfl)
  refine x_VV (As := [.int a1]) (rest := []) hF hl hP hS (c_X8_checkStrategy ht g3) (cw_X8_206 hC rfl rfl ⟨Nat.le_of_ble_eq_true rfl, Nat.le_of_ble_eq_true rfl⟩) lc_0 rfl rfl rfl (Nat.le_of_ble_eq_true rfl) dX8_mix_2 ⟨Nat.zero_le _, Nat.zero_le _⟩ (fun H locs hP hS => ?_)
  refine lv_aload_n hx hb dX8_mix_5 rfl (lv_at hl 0 rfl) ?_
  refine lv_iload_n hx hb dX8_mix_6 rfl (lv_at hl 2 rfl) ?_
  rcases of_bnx h with ⟨r4, σ5, g6, h⟩ | ⟨X, σ5, g6, rfl⟩
  rotate_left
  · exact x_VT (As := [.int a2]) (rest := []) hF hl hP hS (c_X8_checkStrategy ht g6) (cw_X8_206 hC rfl rfl ⟨Nat.le_of_ble_eq_true rfl, Nat.le_of_ble_eq_true rfl⟩) lc_0 rfl rfl rfl (Nat.le_of_ble_eq_true rfl) dX8_mix_7 ⟨Nat.le_refl _, Nat.le_refl _⟩ (htab _ _ rfl)
  refine x_VV (As := [.int a2]) (rest := []) hF hl hP hS (c_X8_checkStrategy ht g6) (cw_X8_206 hC rfl rfl ⟨Nat.le_of_ble_eq_true rfl, Nat.le_of_ble_eq_true rfl⟩) lc_0 rfl rfl rfl (Nat.le_of_ble_eq_true rfl) dX8_mix_7 ⟨Nat.zero_le _, Nat.zero_le _⟩ (fun H locs hP hS => ?_)
  refine lv_aload_n hx hb dX8_mix_10 rfl (lv_at hl 0 rfl) ?_
  refine lv_iload hx hb dX8_mix_11 (lv_at hl 4 rfl) ?_
  rcases of_bnx h with ⟨r7, σ8, g9, h⟩ | ⟨X, σ8, g9, rfl⟩
  rotate_left
  · exact x_VT (As := [.int a4]) (rest := []) hF hl hP hS (c_X8_checkGain ht g9) (cw_X8_178 hC rfl rfl ⟨Nat.le_of_ble_eq_true rfl, Nat.le_of_ble_eq_true rfl⟩) lc_0 rfl rfl rfl (Nat.le_of_ble_eq_true rfl) dX8_mix_13 ⟨Nat.le_refl _, Nat.le_refl _⟩ (htab _ _ rfl)
  refine x_VV (As := [.int a4]) (rest := []) hF hl hP hS (c_X8_checkGain ht g9) (cw_X8_178 hC rfl rfl ⟨Nat.le_of_ble_eq_true rfl, Nat.le_of_ble_eq_true rfl⟩) lc_0 rfl rfl rfl (Nat.le_of_ble_eq_true rfl) dX8_mix_13 ⟨Nat.zero_le _, Nat.zero_le _⟩ (fun H locs hP hS => ?_)
  refine lv_aload_n hx hb dX8_mix_16 rfl (lv_at hl 0 rfl) ?_
  refine lv_iload_n hx hb dX8_mix_17 rfl (lv_at hl 3 rfl) ?_
  refine lv_iconst (v := 0) hx hb dX8_mix_18 (by decide) ?_
  refine lv_bipush (v := 100) hx hb dX8_mix_19 (by decide) ?_
  rcases of_bnx h with ⟨r10, σ11, g12, h⟩ | ⟨X, σ11, g12, rfl⟩
  rotate_left
  · exact x_VT (As := [.int a3, .int 0, .int 100]) (rest := []) hF hl hP hS (c_X8_checkRange ht g12) (cw_X8_96 hC rfl rfl ⟨Nat.le_of_ble_eq_true rfl, Nat.le_of_ble_eq_true rfl⟩) lc_0 rfl rfl rfl (Nat.le_of_ble_eq_true rfl) dX8_mix_21 ⟨Nat.le_refl _, Nat.le_refl _⟩ (htab _ _ rfl)
  refine x_VV (As := [.int a3, .int 0, .int 100]) (rest := []) hF hl hP hS (c_X8_checkRange ht g12) (cw_X8_96 hC rfl rfl ⟨Nat.le_of_ble_eq_true rfl, Nat.le_of_ble_eq_true rfl⟩) lc_0 rfl rfl rfl (Nat.le_of_ble_eq_true rfl) dX8_mix_21 ⟨Nat.zero_le _, Nat.zero_le _⟩ (fun H locs hP hS => ?_)
  refine lv_aload_n hx hb dX8_mix_24 rfl (lv_at hl 0 rfl) ?_
  refine lv_iload_n hx hb dX8_mix_25 rfl (lv_at hl 1 rfl) ?_
  refine lv_iload_n hx hb dX8_mix_26 rfl (lv_at hl 2 rfl) ?_
  refine lv_iload_n hx hb dX8_mix_27 rfl (lv_at hl 3 rfl) ?_
  refine lv_iload hx hb dX8_mix_28 (lv_at hl 4 rfl) ?_
  obtain ⟨r13, σ14, g15, h⟩ := of_bnd h
  refine x_VL (As := [.int a1, .int a2, .int a3, .int a4]) (rest := []) hF hl hP hS (c_X8_mixed g15) (cw_X8_241 hC rfl rfl ⟨Nat.le_of_ble_eq_true rfl, Nat.le_of_ble_eq_true rfl⟩) lc_0 rfl rfl rfl (Nat.le_of_ble_eq_true rfl) dX8_mix_30 ⟨Nat.zero_le _, Nat.zero_le _⟩ (fun H locs hP hS => ?_)
  exact x_lretX hF hP hS h dX8_mix_33

def f_X8_bestMix_114 (k19 : Int32 → Int32 → Int64 → Int32 → Int64 → Int32 → Sta → Option ((Int32 ⊕ String) × Sta)) (k32 : Int32 → Int32 → Int64 → Int32 → Int64 → Int32 → Int32 → Sta → Option ((Int32 ⊕ String) × Sta)) (k44 : Int32 → Int32 → Int64 → Int32 → Int64 → Int32 → Int32 → Int32 → Sta → Option ((Int32 ⊕ String) × Sta)) (v1 : Int32) (v2 : Int32) (v3 : Int64) (v5 : Int32) (v6 : Int64) (v8 : Int32) (v9 : Int32) (v10 : Int32) (σ : Sta) : Option ((Int32 ⊕ String) × Sta) :=
  lt (v10 + 1) (fun x1 =>
  k44 v1 v2 v3 v5 v6 v8 v9 x1 σ)
set_option maxHeartbeats 4000000 in
set_option maxRecDepth 100000 in
theorem t_X8_bestMix_114 {l : Launch} {D : va_G} {Y : CYs} {E : Nat → Nat} {p : Program} {e : Env} {s : State} {m : MethodId} {args : Array Value} {below : List Frame} {meth : Method} {c : Code} (hF : Fr p s m args meth c RX8 cX8_bestMix 13 (some .int) D Y E LC) {o : (Int32 ⊕ String) × Sta} (ht : l.stackTraces = false) (htab : ∀ X u, o = (.inr X, u) → ∀ x ∈ c.exceptionTable.toList, False) (k19 : Int32 → Int32 → Int64 → Int32 → Int64 → Int32 → Sta → Option ((Int32 ⊕ String) × Sta)) (k32 : Int32 → Int32 → Int64 → Int32 → Int64 → Int32 → Int32 → Sta → Option ((Int32 ⊕ String) × Sta)) (k44 : Int32 → Int32 → Int64 → Int32 → Int64 → Int32 → Int32 → Int32 → Sta → Option ((Int32 ⊕ String) × Sta)) (hk19 : ∀ (v1 : Int32) (v2 : Int32) (v3 : Int64) (v5 : Int32) (v6 : Int64) (v8 : Int32) (σ : Sta) (H : Heap) (locs : List Loc) (ls : Array Slot), k19 v1 v2 v3 v5 v6 v8 σ = some o → va_P D vwCl (wd Y E σ 0 LC) H → va_S (AF E LC.length s.heap.size) s.heap H locs → lv_has ls 13 [(0, .ref (E 0)), (1, .int v1), (2, .int v2), (3, .long v3), (5, .int v5), (6, .long v6), (8, .int v8)] → W p l e (rmx 8 125 o) s m args below meth c H locs 0 0 (QmI below args s LC Y D E o) (F0 m 19 ls [])) (hk32 : ∀ (v1 : Int32) (v2 : Int32) (v3 : Int64) (v5 : Int32) (v6 : Int64) (v8 : Int32) (v9 : Int32) (σ : Sta) (H : Heap) (locs : List Loc) (ls : Array Slot), k32 v1 v2 v3 v5 v6 v8 v9 σ = some o → va_P D vwCl (wd Y E σ 0 LC) H → va_S (AF E LC.length s.heap.size) s.heap H locs → lv_has ls 13 [(0, .ref (E 0)), (1, .int v1), (2, .int v2), (3, .long v3), (5, .int v5), (6, .long v6), (8, .int v8), (9, .int v9)] → W p l e (rmx 8 125 o) s m args below meth c H locs 0 0 (QmI below args s LC Y D E o) (F0 m 32 ls [])) (hk44 : ∀ (v1 : Int32) (v2 : Int32) (v3 : Int64) (v5 : Int32) (v6 : Int64) (v8 : Int32) (v9 : Int32) (v10 : Int32) (σ : Sta) (H : Heap) (locs : List Loc) (ls : Array Slot), k44 v1 v2 v3 v5 v6 v8 v9 v10 σ = some o → va_P D vwCl (wd Y E σ 0 LC) H → va_S (AF E LC.length s.heap.size) s.heap H locs → lv_has ls 13 [(0, .ref (E 0)), (1, .int v1), (2, .int v2), (3, .long v3), (5, .int v5), (6, .long v6), (8, .int v8), (9, .int v9), (10, .int v10)] → W p l e (rmx 8 125 o) s m args below meth c H locs 0 0 (QmI below args s LC Y D E o) (F0 m 44 ls [])) : ∀ (v1 : Int32) (v2 : Int32) (v3 : Int64) (v5 : Int32) (v6 : Int64) (v8 : Int32) (v9 : Int32) (v10 : Int32) (σ : Sta) (H : Heap) (locs : List Loc) (ls : Array Slot), f_X8_bestMix_114 k19 k32 k44 v1 v2 v3 v5 v6 v8 v9 v10 σ = some o → va_P D vwCl (wd Y E σ 0 LC) H → va_S (AF E LC.length s.heap.size) s.heap H locs → lv_has ls 13 [(0, .ref (E 0)), (1, .int v1), (2, .int v2), (3, .long v3), (5, .int v5), (6, .long v6), (8, .int v8), (9, .int v9), (10, .int v10)] → W p l e (rmx 8 125 o) s m args below meth c H locs 0 0 (QmI below args s LC Y D E o) (F0 m 114 ls []) := by
  intro v1 v2 v3 v5 v6 v8 v9 v10 σ H locs ls h hP hS hl
  unfold f_X8_bestMix_114 at h
  obtain ⟨hC, hb, hml, hr, hlk, hD, hSW⟩ := id hF
  have hx := hC.1
  obtain ⟨x1, ex1⟩ : ∃ y : Int32, y = v10 + 1 := ⟨_, rfl⟩
  have h := of_lt h ex1
  refine lv_iinc (v := x1) (lv' := [(10, .int x1), (0, .ref (E 0)), (1, .int v1), (2, .int v2), (3, .long v3), (5, .int v5), (6, .long v6), (8, .int v8), (9, .int v9)]) hx hb dX8_bestMix_114 hl (k := 8) rfl (by rw [ex1]; rfl) (by decide) rfl (fun ls hl => ?_)
  refine lv_goto (tgt := 44) hx hb dX8_bestMix_117 (by decide) ?_
  exact hk44 v1 v2 v3 v5 v6 v8 v9 x1 σ _ _ _ h hP hS (lv_sub hl [1, 2, 3, 4, 5, 6, 7, 8, 0] rfl)

def f_X8_bestMix_93 (k19 : Int32 → Int32 → Int64 → Int32 → Int64 → Int32 → Sta → Option ((Int32 ⊕ String) × Sta)) (k32 : Int32 → Int32 → Int64 → Int32 → Int64 → Int32 → Int32 → Sta → Option ((Int32 ⊕ String) × Sta)) (k44 : Int32 → Int32 → Int64 → Int32 → Int64 → Int32 → Int32 → Int32 → Sta → Option ((Int32 ⊕ String) × Sta)) (v1 : Int32) (v2 : Int32) (v3 : Int64) (v8 : Int32) (v9 : Int32) (v10 : Int32) (v11 : Int64) (σ : Sta) : Option ((Int32 ⊕ String) × Sta) :=
  lt (((100000 * v8) + (1000 * v9)) + v10) (fun x1 =>
  f_X8_bestMix_114 k19 k32 k44 v1 v2 v3 x1 v11 v8 v9 v10 σ)
set_option maxHeartbeats 4000000 in
set_option maxRecDepth 100000 in
theorem t_X8_bestMix_93 {l : Launch} {D : va_G} {Y : CYs} {E : Nat → Nat} {p : Program} {e : Env} {s : State} {m : MethodId} {args : Array Value} {below : List Frame} {meth : Method} {c : Code} (hF : Fr p s m args meth c RX8 cX8_bestMix 13 (some .int) D Y E LC) {o : (Int32 ⊕ String) × Sta} (ht : l.stackTraces = false) (htab : ∀ X u, o = (.inr X, u) → ∀ x ∈ c.exceptionTable.toList, False) (k19 : Int32 → Int32 → Int64 → Int32 → Int64 → Int32 → Sta → Option ((Int32 ⊕ String) × Sta)) (k32 : Int32 → Int32 → Int64 → Int32 → Int64 → Int32 → Int32 → Sta → Option ((Int32 ⊕ String) × Sta)) (k44 : Int32 → Int32 → Int64 → Int32 → Int64 → Int32 → Int32 → Int32 → Sta → Option ((Int32 ⊕ String) × Sta)) (hk19 : ∀ (v1 : Int32) (v2 : Int32) (v3 : Int64) (v5 : Int32) (v6 : Int64) (v8 : Int32) (σ : Sta) (H : Heap) (locs : List Loc) (ls : Array Slot), k19 v1 v2 v3 v5 v6 v8 σ = some o → va_P D vwCl (wd Y E σ 0 LC) H → va_S (AF E LC.length s.heap.size) s.heap H locs → lv_has ls 13 [(0, .ref (E 0)), (1, .int v1), (2, .int v2), (3, .long v3), (5, .int v5), (6, .long v6), (8, .int v8)] → W p l e (rmx 8 125 o) s m args below meth c H locs 0 0 (QmI below args s LC Y D E o) (F0 m 19 ls [])) (hk32 : ∀ (v1 : Int32) (v2 : Int32) (v3 : Int64) (v5 : Int32) (v6 : Int64) (v8 : Int32) (v9 : Int32) (σ : Sta) (H : Heap) (locs : List Loc) (ls : Array Slot), k32 v1 v2 v3 v5 v6 v8 v9 σ = some o → va_P D vwCl (wd Y E σ 0 LC) H → va_S (AF E LC.length s.heap.size) s.heap H locs → lv_has ls 13 [(0, .ref (E 0)), (1, .int v1), (2, .int v2), (3, .long v3), (5, .int v5), (6, .long v6), (8, .int v8), (9, .int v9)] → W p l e (rmx 8 125 o) s m args below meth c H locs 0 0 (QmI below args s LC Y D E o) (F0 m 32 ls [])) (hk44 : ∀ (v1 : Int32) (v2 : Int32) (v3 : Int64) (v5 : Int32) (v6 : Int64) (v8 : Int32) (v9 : Int32) (v10 : Int32) (σ : Sta) (H : Heap) (locs : List Loc) (ls : Array Slot), k44 v1 v2 v3 v5 v6 v8 v9 v10 σ = some o → va_P D vwCl (wd Y E σ 0 LC) H → va_S (AF E LC.length s.heap.size) s.heap H locs → lv_has ls 13 [(0, .ref (E 0)), (1, .int v1), (2, .int v2), (3, .long v3), (5, .int v5), (6, .long v6), (8, .int v8), (9, .int v9), (10, .int v10)] → W p l e (rmx 8 125 o) s m args below meth c H locs 0 0 (QmI below args s LC Y D E o) (F0 m 44 ls [])) : ∀ (v1 : Int32) (v2 : Int32) (v3 : Int64) (v8 : Int32) (v9 : Int32) (v10 : Int32) (v11 : Int64) (σ : Sta) (H : Heap) (locs : List Loc) (ls : Array Slot), f_X8_bestMix_93 k19 k32 k44 v1 v2 v3 v8 v9 v10 v11 σ = some o → va_P D vwCl (wd Y E σ 0 LC) H → va_S (AF E LC.length s.heap.size) s.heap H locs → lv_has ls 13 [(0, .ref (E 0)), (1, .int v1), (2, .int v2), (3, .long v3), (8, .int v8), (9, .int v9), (10, .int v10), (11, .long v11)] → W p l e (rmx 8 125 o) s m args below meth c H locs 0 0 (QmI below args s LC Y D E o) (F0 m 93 ls []) := by
  intro v1 v2 v3 v8 v9 v10 v11 σ H locs ls h hP hS hl
  unfold f_X8_bestMix_93 at h
  obtain ⟨hC, hb, hml, hr, hlk, hD, hSW⟩ := id hF
  have hx := hC.1
  refine lv_ldc (v := 100000) hx hb hC.2.2.1 (hC.2.1 (Cond.constant RX8 245 100000) (gw_t (tb5 (List.mem_of_getElem? (i := 209) rfl)) rfl)) dX8_bestMix_93 ?_
  refine lv_iload hx hb dX8_bestMix_95 (lv_at hl 4 rfl) ?_
  refine lv_imul hx hb dX8_bestMix_97 ?_
  refine lv_sipush (v := 1000) hx hb dX8_bestMix_98 (by decide) ?_
  refine lv_iload hx hb dX8_bestMix_101 (lv_at hl 5 rfl) ?_
  refine lv_imul hx hb dX8_bestMix_103 ?_
  refine lv_iadd hx hb dX8_bestMix_104 ?_
  refine lv_iload hx hb dX8_bestMix_105 (lv_at hl 6 rfl) ?_
  refine lv_iadd hx hb dX8_bestMix_107 ?_
  refine lv_topi (fun x1 ex1 => ?_)
  have h := of_lt h ex1
  refine lv_istore (lv' := [(5, .int x1), (0, .ref (E 0)), (1, .int v1), (2, .int v2), (3, .long v3), (8, .int v8), (9, .int v9), (10, .int v10), (11, .long v11)]) hx hb dX8_bestMix_108 hl (by decide) rfl (fun ls hl => ?_)
  refine lv_lload hx hb dX8_bestMix_110 (lv_at hl 8 rfl) ?_
  refine lv_lstore (lv' := [(6, .long v11), (5, .int x1), (0, .ref (E 0)), (1, .int v1), (2, .int v2), (3, .long v3), (8, .int v8), (9, .int v9), (10, .int v10), (11, .long v11)]) hx hb dX8_bestMix_112 hl (by decide) rfl (fun ls hl => ?_)
  exact t_X8_bestMix_114  hF ht htab k19 k32 k44 hk19 hk32 hk44 v1 v2 v3 x1 v11 v8 v9 v10 σ _ _ _ h hP hS (lv_sub hl [2, 3, 4, 5, 1, 0, 6, 7, 8] rfl)

def f_X8_bestMix_44 (k19 : Int32 → Int32 → Int64 → Int32 → Int64 → Int32 → Sta → Option ((Int32 ⊕ String) × Sta)) (k32 : Int32 → Int32 → Int64 → Int32 → Int64 → Int32 → Int32 → Sta → Option ((Int32 ⊕ String) × Sta)) : Nat → Int32 → Int32 → Int64 → Int32 → Int64 → Int32 → Int32 → Int32 → Sta → Option ((Int32 ⊕ String) × Sta)
  | 0, _, _, _, _, _, _, _, _, _ => none
  | n + 1, v1, v2, v3, v5, v6, v8, v9, v10, σ => if 100 < v10 then
      lt (v9 + 1) (fun x2 =>
      k32 v1 v2 v3 v5 v6 v8 x2 σ)
    else
      bnd (f_X8_mixed v8 v9 v10 v1 σ) (fun r3 σ4 =>
      bnd (f_X8_mixed v8 v9 v10 v2 σ4) (fun r6 σ7 =>
      if lg_cmp r6 v3 < 0 then
        f_X8_bestMix_114 k19 k32 (f_X8_bestMix_44 k19 k32 n) v1 v2 v3 v5 v6 v8 v9 v10 σ7
      else
        if v5 < 0 then
          f_X8_bestMix_93 k19 k32 (f_X8_bestMix_44 k19 k32 n) v1 v2 v3 v8 v9 v10 r3 σ7
        else
          if lg_cmp r3 v6 ≤ 0 then
            f_X8_bestMix_114 k19 k32 (f_X8_bestMix_44 k19 k32 n) v1 v2 v3 v5 v6 v8 v9 v10 σ7
          else
            f_X8_bestMix_93 k19 k32 (f_X8_bestMix_44 k19 k32 n) v1 v2 v3 v8 v9 v10 r3 σ7))
set_option maxHeartbeats 4000000 in
set_option maxRecDepth 100000 in
theorem t_X8_bestMix_44 {l : Launch} {D : va_G} {Y : CYs} {E : Nat → Nat} {p : Program} {e : Env} {s : State} {m : MethodId} {args : Array Value} {below : List Frame} {meth : Method} {c : Code} (hF : Fr p s m args meth c RX8 cX8_bestMix 13 (some .int) D Y E LC) {o : (Int32 ⊕ String) × Sta} (ht : l.stackTraces = false) (htab : ∀ X u, o = (.inr X, u) → ∀ x ∈ c.exceptionTable.toList, False) (k19 : Int32 → Int32 → Int64 → Int32 → Int64 → Int32 → Sta → Option ((Int32 ⊕ String) × Sta)) (k32 : Int32 → Int32 → Int64 → Int32 → Int64 → Int32 → Int32 → Sta → Option ((Int32 ⊕ String) × Sta)) (hk19 : ∀ (v1 : Int32) (v2 : Int32) (v3 : Int64) (v5 : Int32) (v6 : Int64) (v8 : Int32) (σ : Sta) (H : Heap) (locs : List Loc) (ls : Array Slot), k19 v1 v2 v3 v5 v6 v8 σ = some o → va_P D vwCl (wd Y E σ 0 LC) H → va_S (AF E LC.length s.heap.size) s.heap H locs → lv_has ls 13 [(0, .ref (E 0)), (1, .int v1), (2, .int v2), (3, .long v3), (5, .int v5), (6, .long v6), (8, .int v8)] → W p l e (rmx 8 125 o) s m args below meth c H locs 0 0 (QmI below args s LC Y D E o) (F0 m 19 ls [])) (hk32 : ∀ (v1 : Int32) (v2 : Int32) (v3 : Int64) (v5 : Int32) (v6 : Int64) (v8 : Int32) (v9 : Int32) (σ : Sta) (H : Heap) (locs : List Loc) (ls : Array Slot), k32 v1 v2 v3 v5 v6 v8 v9 σ = some o → va_P D vwCl (wd Y E σ 0 LC) H → va_S (AF E LC.length s.heap.size) s.heap H locs → lv_has ls 13 [(0, .ref (E 0)), (1, .int v1), (2, .int v2), (3, .long v3), (5, .int v5), (6, .long v6), (8, .int v8), (9, .int v9)] → W p l e (rmx 8 125 o) s m args below meth c H locs 0 0 (QmI below args s LC Y D E o) (F0 m 32 ls [])) : ∀ (n : Nat) (v1 : Int32) (v2 : Int32) (v3 : Int64) (v5 : Int32) (v6 : Int64) (v8 : Int32) (v9 : Int32) (v10 : Int32) (σ : Sta) (H : Heap) (locs : List Loc) (ls : Array Slot), f_X8_bestMix_44 k19 k32 n v1 v2 v3 v5 v6 v8 v9 v10 σ = some o → va_P D vwCl (wd Y E σ 0 LC) H → va_S (AF E LC.length s.heap.size) s.heap H locs → lv_has ls 13 [(0, .ref (E 0)), (1, .int v1), (2, .int v2), (3, .long v3), (5, .int v5), (6, .long v6), (8, .int v8), (9, .int v9), (10, .int v10)] → W p l e (rmx 8 125 o) s m args below meth c H locs 0 0 (QmI below args s LC Y D E o) (F0 m 44 ls []) := by
  intro n
  induction n with
  | zero =>
    intro v1 v2 v3 v5 v6 v8 v9 v10 σ H locs ls h hP hS hl
    exact nomatch (show (none : Option ((Int32 ⊕ String) × Sta)) = some o from h)
  | succ n ih =>
    intro v1 v2 v3 v5 v6 v8 v9 v10 σ H locs ls h hP hS hl
    rw [f_X8_bestMix_44] at h
    obtain ⟨hC, hb, hml, hr, hlk, hD, hSW⟩ := id hF
    have hx := hC.1
    refine lv_iload hx hb dX8_bestMix_44 (lv_at hl 8 rfl) ?_
    refine lv_bipush (v := 100) hx hb dX8_bestMix_46 (by decide) ?_
    refine lv_icmp_gt (tgt := 120) hx hb dX8_bestMix_48 (by decide) (fun c1 => ?_) (fun c1 => ?_)
    · have h := of_t h c1
      obtain ⟨x2, ex2⟩ : ∃ y : Int32, y = v9 + 1 := ⟨_, rfl⟩
      have h := of_lt h ex2
      refine lv_iinc (v := x2) (lv' := [(9, .int x2), (0, .ref (E 0)), (1, .int v1), (2, .int v2), (3, .long v3), (5, .int v5), (6, .long v6), (8, .int v8), (10, .int v10)]) hx hb dX8_bestMix_120 hl (k := 7) rfl (by rw [ex2]; rfl) (by decide) rfl (fun ls hl => ?_)
      refine lv_goto (tgt := 32) hx hb dX8_bestMix_123 (by decide) ?_
      exact hk32 v1 v2 v3 v5 v6 v8 x2 σ _ _ _ h hP hS (lv_sub hl [1, 2, 3, 4, 5, 6, 7, 0] rfl)
    · have h := of_f h c1
      refine lv_aload_n hx hb dX8_bestMix_51 rfl (lv_at hl 0 rfl) ?_
      refine lv_iload hx hb dX8_bestMix_52 (lv_at hl 6 rfl) ?_
      refine lv_iload hx hb dX8_bestMix_54 (lv_at hl 7 rfl) ?_
      refine lv_iload hx hb dX8_bestMix_56 (lv_at hl 8 rfl) ?_
      refine lv_iload_n hx hb dX8_bestMix_58 rfl (lv_at hl 1 rfl) ?_
      obtain ⟨r3, σ4, g5, h⟩ := of_bnd h
      refine x_VL (As := [.int v8, .int v9, .int v10, .int v1]) (rest := []) hF hl hP hS (c_X8_mixed g5) (cw_X8_241 hC rfl rfl ⟨Nat.le_of_ble_eq_true rfl, Nat.le_of_ble_eq_true rfl⟩) lc_0 rfl rfl rfl (Nat.le_of_ble_eq_true rfl) dX8_bestMix_59 ⟨Nat.zero_le _, Nat.zero_le _⟩ (fun H locs hP hS => ?_)
      refine lv_lstore (lv' := [(11, .long r3), (0, .ref (E 0)), (1, .int v1), (2, .int v2), (3, .long v3), (5, .int v5), (6, .long v6), (8, .int v8), (9, .int v9), (10, .int v10)]) hx hb dX8_bestMix_62 hl (by decide) rfl (fun ls hl => ?_)
      refine lv_aload_n hx hb dX8_bestMix_64 rfl (lv_at hl 1 rfl) ?_
      refine lv_iload hx hb dX8_bestMix_65 (lv_at hl 7 rfl) ?_
      refine lv_iload hx hb dX8_bestMix_67 (lv_at hl 8 rfl) ?_
      refine lv_iload hx hb dX8_bestMix_69 (lv_at hl 9 rfl) ?_
      refine lv_iload_n hx hb dX8_bestMix_71 rfl (lv_at hl 3 rfl) ?_
      obtain ⟨r6, σ7, g8, h⟩ := of_bnd h
      refine x_VL (As := [.int v8, .int v9, .int v10, .int v2]) (rest := []) hF hl hP hS (c_X8_mixed g8) (cw_X8_241 hC rfl rfl ⟨Nat.le_of_ble_eq_true rfl, Nat.le_of_ble_eq_true rfl⟩) lc_0 rfl rfl rfl (Nat.le_of_ble_eq_true rfl) dX8_bestMix_72 ⟨Nat.zero_le _, Nat.zero_le _⟩ (fun H locs hP hS => ?_)
      refine lv_lload_n hx hb dX8_bestMix_75 rfl (lv_at hl 4 rfl) ?_
      refine W.lcmp hx hb dX8_bestMix_76 ?_
      refine lv_if_lt (tgt := 114) hx hb dX8_bestMix_77 (by decide) (fun c9 => ?_) (fun c9 => ?_)
      · have h := of_t h c9
        exact t_X8_bestMix_114  hF ht htab k19 k32 (f_X8_bestMix_44 k19 k32 n) hk19 hk32 ih v1 v2 v3 v5 v6 v8 v9 v10 σ7 _ _ _ h hP hS (lv_sub hl [1, 2, 3, 4, 5, 6, 7, 8, 9] rfl)
      · have h := of_f h c9
        refine lv_iload hx hb dX8_bestMix_80 (lv_at hl 5 rfl) ?_
        refine lv_if_lt (tgt := 93) hx hb dX8_bestMix_82 (by decide) (fun c10 => ?_) (fun c10 => ?_)
        · have h := of_t h c10
          exact t_X8_bestMix_93  hF ht htab k19 k32 (f_X8_bestMix_44 k19 k32 n) hk19 hk32 ih v1 v2 v3 v8 v9 v10 r3 σ7 _ _ _ h hP hS (lv_sub hl [1, 2, 3, 4, 7, 8, 9, 0] rfl)
        · have h := of_f h c10
          refine lv_lload hx hb dX8_bestMix_85 (lv_at hl 0 rfl) ?_
          refine lv_lload hx hb dX8_bestMix_87 (lv_at hl 6 rfl) ?_
          refine W.lcmp hx hb dX8_bestMix_89 ?_
          refine lv_if_le (tgt := 114) hx hb dX8_bestMix_90 (by decide) (fun c11 => ?_) (fun c11 => ?_)
          · have h := of_t h c11
            exact t_X8_bestMix_114  hF ht htab k19 k32 (f_X8_bestMix_44 k19 k32 n) hk19 hk32 ih v1 v2 v3 v5 v6 v8 v9 v10 σ7 _ _ _ h hP hS (lv_sub hl [1, 2, 3, 4, 5, 6, 7, 8, 9] rfl)
          · have h := of_f h c11
            exact t_X8_bestMix_93  hF ht htab k19 k32 (f_X8_bestMix_44 k19 k32 n) hk19 hk32 ih v1 v2 v3 v8 v9 v10 r3 σ7 _ _ _ h hP hS (lv_sub hl [1, 2, 3, 4, 7, 8, 9, 0] rfl)

def f_X8_bestMix_32 (k19 : Int32 → Int32 → Int64 → Int32 → Int64 → Int32 → Sta → Option ((Int32 ⊕ String) × Sta)) : Nat → Int32 → Int32 → Int64 → Int32 → Int64 → Int32 → Int32 → Sta → Option ((Int32 ⊕ String) × Sta)
  | 0, _, _, _, _, _, _, _, _ => none
  | n + 1, v1, v2, v3, v5, v6, v8, v9, σ => if gI σ 11 ≤ v9 then
      lt (v8 + 1) (fun x2 =>
      k19 v1 v2 v3 v5 v6 x2 σ)
    else
      f_X8_bestMix_44 k19 (f_X8_bestMix_32 k19 n) FU v1 v2 v3 v5 v6 v8 v9 0 σ
set_option maxHeartbeats 4000000 in
set_option maxRecDepth 100000 in
theorem t_X8_bestMix_32 {l : Launch} {D : va_G} {Y : CYs} {E : Nat → Nat} {p : Program} {e : Env} {s : State} {m : MethodId} {args : Array Value} {below : List Frame} {meth : Method} {c : Code} (hF : Fr p s m args meth c RX8 cX8_bestMix 13 (some .int) D Y E LC) {o : (Int32 ⊕ String) × Sta} (ht : l.stackTraces = false) (htab : ∀ X u, o = (.inr X, u) → ∀ x ∈ c.exceptionTable.toList, False) (k19 : Int32 → Int32 → Int64 → Int32 → Int64 → Int32 → Sta → Option ((Int32 ⊕ String) × Sta)) (hk19 : ∀ (v1 : Int32) (v2 : Int32) (v3 : Int64) (v5 : Int32) (v6 : Int64) (v8 : Int32) (σ : Sta) (H : Heap) (locs : List Loc) (ls : Array Slot), k19 v1 v2 v3 v5 v6 v8 σ = some o → va_P D vwCl (wd Y E σ 0 LC) H → va_S (AF E LC.length s.heap.size) s.heap H locs → lv_has ls 13 [(0, .ref (E 0)), (1, .int v1), (2, .int v2), (3, .long v3), (5, .int v5), (6, .long v6), (8, .int v8)] → W p l e (rmx 8 125 o) s m args below meth c H locs 0 0 (QmI below args s LC Y D E o) (F0 m 19 ls [])) : ∀ (n : Nat) (v1 : Int32) (v2 : Int32) (v3 : Int64) (v5 : Int32) (v6 : Int64) (v8 : Int32) (v9 : Int32) (σ : Sta) (H : Heap) (locs : List Loc) (ls : Array Slot), f_X8_bestMix_32 k19 n v1 v2 v3 v5 v6 v8 v9 σ = some o → va_P D vwCl (wd Y E σ 0 LC) H → va_S (AF E LC.length s.heap.size) s.heap H locs → lv_has ls 13 [(0, .ref (E 0)), (1, .int v1), (2, .int v2), (3, .long v3), (5, .int v5), (6, .long v6), (8, .int v8), (9, .int v9)] → W p l e (rmx 8 125 o) s m args below meth c H locs 0 0 (QmI below args s LC Y D E o) (F0 m 32 ls []) := by
  intro n
  induction n with
  | zero =>
    intro v1 v2 v3 v5 v6 v8 v9 σ H locs ls h hP hS hl
    exact nomatch (show (none : Option ((Int32 ⊕ String) × Sta)) = some o from h)
  | succ n ih =>
    intro v1 v2 v3 v5 v6 v8 v9 σ H locs ls h hP hS hl
    rw [f_X8_bestMix_32] at h
    obtain ⟨hC, hb, hml, hr, hlk, hD, hSW⟩ := id hF
    have hx := hC.1
    refine lv_iload hx hb dX8_bestMix_32 (lv_at hl 7 rfl) ?_
    refine lv_aload_n hx hb dX8_bestMix_34 rfl (lv_at hl 0 rfl) ?_
    refine gf_X8_132 hC hb hP dX8_bestMix_35 ?_
    refine lv_icmp_ge (tgt := 126) hx hb dX8_bestMix_38 (by decide) (fun c1 => ?_) (fun c1 => ?_)
    · have h := of_t h c1
      obtain ⟨x2, ex2⟩ : ∃ y : Int32, y = v8 + 1 := ⟨_, rfl⟩
      have h := of_lt h ex2
      refine lv_iinc (v := x2) (lv' := [(8, .int x2), (0, .ref (E 0)), (1, .int v1), (2, .int v2), (3, .long v3), (5, .int v5), (6, .long v6), (9, .int v9)]) hx hb dX8_bestMix_126 hl (k := 6) rfl (by rw [ex2]; rfl) (by decide) rfl (fun ls hl => ?_)
      refine lv_goto (tgt := 19) hx hb dX8_bestMix_129 (by decide) ?_
      exact hk19 v1 v2 v3 v5 v6 x2 σ _ _ _ h hP hS (lv_sub hl [1, 2, 3, 4, 5, 6, 0] rfl)
    · have h := of_f h c1
      refine lv_iconst (v := 0) hx hb dX8_bestMix_41 (by decide) ?_
      refine lv_istore (lv' := [(10, .int 0), (0, .ref (E 0)), (1, .int v1), (2, .int v2), (3, .long v3), (5, .int v5), (6, .long v6), (8, .int v8), (9, .int v9)]) hx hb dX8_bestMix_42 hl (by decide) rfl (fun ls hl => ?_)
      exact t_X8_bestMix_44  hF ht htab k19 (f_X8_bestMix_32 k19 n) hk19 ih FU v1 v2 v3 v5 v6 v8 v9 0 σ _ _ _ h hP hS (lv_sub hl [1, 2, 3, 4, 5, 6, 7, 8, 0] rfl)

def f_X8_bestMix_19 : Nat → Int32 → Int32 → Int64 → Int32 → Int64 → Int32 → Sta → Option ((Int32 ⊕ String) × Sta)
  | 0, _, _, _, _, _, _, _ => none
  | n + 1, v1, v2, v3, v5, v6, v8, σ => if gI σ 11 ≤ v8 then
      some (.inl v5, σ)
    else
      f_X8_bestMix_32 (f_X8_bestMix_19 n) FU v1 v2 v3 v5 v6 v8 v8 σ
set_option maxHeartbeats 4000000 in
set_option maxRecDepth 100000 in
theorem t_X8_bestMix_19 {l : Launch} {D : va_G} {Y : CYs} {E : Nat → Nat} {p : Program} {e : Env} {s : State} {m : MethodId} {args : Array Value} {below : List Frame} {meth : Method} {c : Code} (hF : Fr p s m args meth c RX8 cX8_bestMix 13 (some .int) D Y E LC) {o : (Int32 ⊕ String) × Sta} (ht : l.stackTraces = false) (htab : ∀ X u, o = (.inr X, u) → ∀ x ∈ c.exceptionTable.toList, False) : ∀ (n : Nat) (v1 : Int32) (v2 : Int32) (v3 : Int64) (v5 : Int32) (v6 : Int64) (v8 : Int32) (σ : Sta) (H : Heap) (locs : List Loc) (ls : Array Slot), f_X8_bestMix_19 n v1 v2 v3 v5 v6 v8 σ = some o → va_P D vwCl (wd Y E σ 0 LC) H → va_S (AF E LC.length s.heap.size) s.heap H locs → lv_has ls 13 [(0, .ref (E 0)), (1, .int v1), (2, .int v2), (3, .long v3), (5, .int v5), (6, .long v6), (8, .int v8)] → W p l e (rmx 8 125 o) s m args below meth c H locs 0 0 (QmI below args s LC Y D E o) (F0 m 19 ls []) := by
  intro n
  induction n with
  | zero =>
    intro v1 v2 v3 v5 v6 v8 σ H locs ls h hP hS hl
    exact nomatch (show (none : Option ((Int32 ⊕ String) × Sta)) = some o from h)
  | succ n ih =>
    intro v1 v2 v3 v5 v6 v8 σ H locs ls h hP hS hl
    rw [f_X8_bestMix_19] at h
    obtain ⟨hC, hb, hml, hr, hlk, hD, hSW⟩ := id hF
    have hx := hC.1
    refine lv_iload hx hb dX8_bestMix_19 (lv_at hl 6 rfl) ?_
    refine lv_aload_n hx hb dX8_bestMix_21 rfl (lv_at hl 0 rfl) ?_
    refine gf_X8_132 hC hb hP dX8_bestMix_22 ?_
    refine lv_icmp_ge (tgt := 132) hx hb dX8_bestMix_25 (by decide) (fun c1 => ?_) (fun c1 => ?_)
    · have h := of_t h c1
      refine lv_iload hx hb dX8_bestMix_132 (lv_at hl 4 rfl) ?_
      exact x_iretX hF hP hS h dX8_bestMix_134
    · have h := of_f h c1
      refine lv_iload hx hb dX8_bestMix_28 (lv_at hl 6 rfl) ?_
      refine lv_istore (lv' := [(9, .int v8), (0, .ref (E 0)), (1, .int v1), (2, .int v2), (3, .long v3), (5, .int v5), (6, .long v6), (8, .int v8)]) hx hb dX8_bestMix_30 hl (by decide) rfl (fun ls hl => ?_)
      exact t_X8_bestMix_32  hF ht htab (f_X8_bestMix_19 n) ih FU v1 v2 v3 v5 v6 v8 v8 σ _ _ _ h hP hS (lv_sub hl [1, 2, 3, 4, 5, 6, 7, 0] rfl)

def f_X8_bestMix (a1 : Int32) (a2 : Int32) (a3 : Int64) (σ : Sta) : Option ((Int32 ⊕ String) × Sta) :=
  bnx (f_X8_checkGain a1 σ) (fun _ σ2 =>
  bnx (f_X8_checkGain a2 σ2) (fun _ σ5 =>
  lt (-1) (fun x7 =>
  f_X8_bestMix_19 FU a1 a2 a3 x7 0 0 σ5)))
set_option maxHeartbeats 4000000 in
set_option maxRecDepth 100000 in
theorem c_X8_bestMix {l : Launch} {D : va_G} {Y : CYs} {E : Nat → Nat} {a1 : Int32} {a2 : Int32} {a3 : Int64} (ht : l.stackTraces = false) {σ : Sta} {o : (Int32 ⊕ String) × Sta} (h : f_X8_bestMix a1 a2 a3 σ = some o) : MXI l yX8_bestMix (Cond.code yX8_bestMix cX8_bestMix 13 (some .int) :: gW) 8 125 LC Y D E [.ref (E 0), .int a1, .int a2, .long a3] σ o := by
  refine Met_ofXI (by decide) (Nat.le_of_ble_eq_true rfl) (fun p e s m args below meth c hF hP htab ls hl => ?_)
  have hS : va_S (AF E LC.length s.heap.size) s.heap s.heap [] := va_S.rf
  have hl : lv_has ls 13 [(0, .ref (E 0)), (1, .int a1), (2, .int a2), (3, .long a3)] := hl
  show W p l e (rmx 8 125 o) s m args below meth c s.heap [] 0 0 (QmI below args s LC Y D E o) (F0 m 0 ls [])
  unfold f_X8_bestMix at h
  obtain ⟨hC, hb, hml, hr, hlk, hD, hSW⟩ := id hF
  have hx := hC.1
  refine lv_aload_n hx hb dX8_bestMix_0 rfl (lv_at hl 0 rfl) ?_
  refine lv_iload_n hx hb dX8_bestMix_1 rfl (lv_at hl 1 rfl) ?_
  rcases of_bnx h with ⟨r1, σ2, g3, h⟩ | ⟨X, σ2, g3, rfl⟩
  rotate_left
  · exact x_VT (As := [.int a1]) (rest := []) hF hl hP hS (c_X8_checkGain ht g3) (cw_X8_178 hC rfl rfl ⟨Nat.le_of_ble_eq_true rfl, Nat.le_of_ble_eq_true rfl⟩) lc_0 rfl rfl rfl (Nat.le_of_ble_eq_true rfl) dX8_bestMix_2 ⟨Nat.le_refl _, Nat.le_refl _⟩ (htab _ _ rfl)
  refine x_VV (As := [.int a1]) (rest := []) hF hl hP hS (c_X8_checkGain ht g3) (cw_X8_178 hC rfl rfl ⟨Nat.le_of_ble_eq_true rfl, Nat.le_of_ble_eq_true rfl⟩) lc_0 rfl rfl rfl (Nat.le_of_ble_eq_true rfl) dX8_bestMix_2 ⟨Nat.zero_le _, Nat.zero_le _⟩ (fun H locs hP hS => ?_)
  refine lv_aload_n hx hb dX8_bestMix_5 rfl (lv_at hl 0 rfl) ?_
  refine lv_iload_n hx hb dX8_bestMix_6 rfl (lv_at hl 2 rfl) ?_
  rcases of_bnx h with ⟨r4, σ5, g6, h⟩ | ⟨X, σ5, g6, rfl⟩
  rotate_left
  · exact x_VT (As := [.int a2]) (rest := []) hF hl hP hS (c_X8_checkGain ht g6) (cw_X8_178 hC rfl rfl ⟨Nat.le_of_ble_eq_true rfl, Nat.le_of_ble_eq_true rfl⟩) lc_0 rfl rfl rfl (Nat.le_of_ble_eq_true rfl) dX8_bestMix_7 ⟨Nat.le_refl _, Nat.le_refl _⟩ (htab _ _ rfl)
  refine x_VV (As := [.int a2]) (rest := []) hF hl hP hS (c_X8_checkGain ht g6) (cw_X8_178 hC rfl rfl ⟨Nat.le_of_ble_eq_true rfl, Nat.le_of_ble_eq_true rfl⟩) lc_0 rfl rfl rfl (Nat.le_of_ble_eq_true rfl) dX8_bestMix_7 ⟨Nat.zero_le _, Nat.zero_le _⟩ (fun H locs hP hS => ?_)
  refine lv_iconst (v := -1) hx hb dX8_bestMix_10 (by decide) ?_
  refine lv_topi (fun x7 ex7 => ?_)
  have h := of_lt h ex7
  refine lv_istore (lv' := [(5, .int x7), (0, .ref (E 0)), (1, .int a1), (2, .int a2), (3, .long a3)]) hx hb dX8_bestMix_11 hl (by decide) rfl (fun ls hl => ?_)
  refine lv_lconst (v := 0) hx hb dX8_bestMix_13 (by decide) ?_
  refine lv_lstore (lv' := [(6, .long 0), (5, .int x7), (0, .ref (E 0)), (1, .int a1), (2, .int a2), (3, .long a3)]) hx hb dX8_bestMix_14 hl (by decide) rfl (fun ls hl => ?_)
  refine lv_iconst (v := 0) hx hb dX8_bestMix_16 (by decide) ?_
  refine lv_istore (lv' := [(8, .int 0), (6, .long 0), (5, .int x7), (0, .ref (E 0)), (1, .int a1), (2, .int a2), (3, .long a3)]) hx hb dX8_bestMix_17 hl (by decide) rfl (fun ls hl => ?_)
  exact t_X8_bestMix_19  hF ht htab FU a1 a2 a3 x7 0 0 σ5 _ _ _ h hP hS (lv_sub hl [3, 4, 5, 6, 2, 1, 0] rfl)

def f_X8_drop_14 : Nat → Nat → Int32 → Sta → Option ((Int32 ⊕ String) × Sta)
  | 0, _, _, _ => none
  | n + 1, dv2, v3, σ => if gI σ 11 ≤ v3 + 1 then
      lt (sI σ 11 ((gI σ 11) - 1)) (fun σ2 =>
      if gI σ2 11 < 0 ∨ 13 ≤ ((gI σ2 11).toNatClampNeg) then none else (
      lt (sP σ2 ((gI σ2 11).toNatClampNeg) dv2) (fun σ4 =>
      some (.inl (gI σ4 11), σ4))))
    else
      if v3 + 1 < 0 ∨ 13 ≤ ((v3 + 1).toNatClampNeg) then none else (
      if 13 ≤ gP σ ((v3 + 1).toNatClampNeg) then none else (
      lt (gP σ ((v3 + 1).toNatClampNeg)) (fun d7 =>
      if v3 < 0 ∨ 13 ≤ (v3.toNatClampNeg) then none else (
      lt (sP σ (v3.toNatClampNeg) d7) (fun σ9 =>
      lt (v3 + 1) (fun x10 =>
      f_X8_drop_14 n dv2 x10 σ9))))))
set_option maxHeartbeats 4000000 in
set_option maxRecDepth 100000 in
theorem t_X8_drop_14 {l : Launch} {D : va_G} {Y : CYs} {E : Nat → Nat} {p : Program} {e : Env} {s : State} {m : MethodId} {args : Array Value} {below : List Frame} {meth : Method} {c : Code} (hF : Fr p s m args meth c RX8 cX8_drop 4 (some .int) D Y E LC) {o : (Int32 ⊕ String) × Sta} (ht : l.stackTraces = false) (htab : ∀ X u, o = (.inr X, u) → ∀ x ∈ c.exceptionTable.toList, False) : ∀ (n : Nat) (dv2 : Nat) (v3 : Int32) (σ : Sta) (H : Heap) (locs : List Loc) (ls : Array Slot), dv2 < 13 → f_X8_drop_14 n dv2 v3 σ = some o → va_P D vwCl (wd Y E σ 0 LC) H → va_S (AF E LC.length s.heap.size) s.heap H locs → lv_has ls 4 [(0, .ref (E 0)), (2, .ref (E (41 + 5 * dv2))), (3, .int v3)] → W p l e (rmx 8 125 o) s m args below meth c H locs 0 0 (QmI below args s LC Y D E o) (F0 m 14 ls []) := by
  intro n
  induction n with
  | zero =>
    intro dv2 v3 σ H locs ls hdv2 h hP hS hl
    exact nomatch (show (none : Option ((Int32 ⊕ String) × Sta)) = some o from h)
  | succ n ih =>
    intro dv2 v3 σ H locs ls hdv2 h hP hS hl
    rw [f_X8_drop_14] at h
    obtain ⟨hC, hb, hml, hr, hlk, hD, hSW⟩ := id hF
    have hx := hC.1
    refine lv_iload_n hx hb dX8_drop_14 rfl (lv_at hl 2 rfl) ?_
    refine lv_iconst (v := 1) hx hb dX8_drop_15 (by decide) ?_
    refine lv_iadd hx hb dX8_drop_16 ?_
    refine lv_aload_n hx hb dX8_drop_17 rfl (lv_at hl 0 rfl) ?_
    refine gf_X8_132 hC hb hP dX8_drop_18 ?_
    refine lv_icmp_ge (tgt := 44) hx hb dX8_drop_21 (by decide) (fun c1 => ?_) (fun c1 => ?_)
    · have h := of_t h c1
      refine lv_aload_n hx hb dX8_drop_44 rfl (lv_at hl 0 rfl) ?_
      refine lv_dup hx hb dX8_drop_45 rfl ?_
      refine gf_X8_132 hC hb hP dX8_drop_46 ?_
      refine lv_iconst (v := 1) hx hb dX8_drop_49 (by decide) ?_
      refine lv_isub hx hb dX8_drop_50 ?_
      refine pf_X8_132 hC hb hP hD hS dX8_drop_51 (fun H locs σ2 eσ2 hP hS => ?_)
      have h := of_lt h eσ2
      refine lv_aload_n hx hb dX8_drop_54 rfl (lv_at hl 0 rfl) ?_
      refine gf_X8_73 hC hb hP dX8_drop_55 ?_
      refine lv_aload_n hx hb dX8_drop_58 rfl (lv_at hl 0 rfl) ?_
      refine gf_X8_132 hC hb hP dX8_drop_59 ?_
      refine lv_aload_n hx hb dX8_drop_62 rfl (lv_at hl 1 rfl) ?_
      obtain ⟨g3, h⟩ := of_gd h
      refine x_aast lc_x4 hC hb hP hD hS lc_10 (lc_s0 hdv2) rfl g3 dX8_drop_63 (fun H locs σ4 eσ4 hP hS => ?_)
      have h := of_lt h eσ4
      refine lv_aload_n hx hb dX8_drop_64 rfl (lv_at hl 0 rfl) ?_
      refine gf_X8_132 hC hb hP dX8_drop_65 ?_
      exact x_iretX hF hP hS h dX8_drop_68
    · have h := of_f h c1
      refine lv_aload_n hx hb dX8_drop_24 rfl (lv_at hl 0 rfl) ?_
      refine gf_X8_73 hC hb hP dX8_drop_25 ?_
      refine lv_iload_n hx hb dX8_drop_28 rfl (lv_at hl 2 rfl) ?_
      refine lv_aload_n hx hb dX8_drop_29 rfl (lv_at hl 0 rfl) ?_
      refine gf_X8_73 hC hb hP dX8_drop_30 ?_
      refine lv_iload_n hx hb dX8_drop_33 rfl (lv_at hl 2 rfl) ?_
      refine lv_iconst (v := 1) hx hb dX8_drop_34 (by decide) ?_
      refine lv_iadd hx hb dX8_drop_35 ?_
      obtain ⟨g5, h⟩ := of_gd h
      obtain ⟨g6, h⟩ := of_gd h
      refine x_aald hC hb hP lc_10 g5 dX8_drop_36 (fun d7 ed7 => ?_)
      have h := of_lt h ed7
      have hd7 : d7 < 13 := by rw [ed7]; exact Nat.lt_of_not_le g6
      obtain ⟨g8, h⟩ := of_gd h
      refine x_aast lc_x4 hC hb hP hD hS lc_10 (lc_s0 hd7) rfl g8 dX8_drop_37 (fun H locs σ9 eσ9 hP hS => ?_)
      have h := of_lt h eσ9
      obtain ⟨x10, ex10⟩ : ∃ y : Int32, y = v3 + 1 := ⟨_, rfl⟩
      have h := of_lt h ex10
      refine lv_iinc (v := x10) (lv' := [(3, .int x10), (0, .ref (E 0)), (2, .ref (E (41 + 5 * dv2)))]) hx hb dX8_drop_38 hl (k := 2) rfl (by rw [ex10]; rfl) (by decide) rfl (fun ls hl => ?_)
      refine lv_goto (tgt := 14) hx hb dX8_drop_41 (by decide) ?_
      exact ih dv2 x10 σ9 _ _ _ hdv2 h hP hS (lv_sub hl [1, 2, 0] rfl)

def f_X8_drop (a1 : Int32) (σ : Sta) : Option ((Int32 ⊕ String) × Sta) :=
  bnx (f_X8_checkStrategy a1 σ) (fun _ σ2 =>
  if a1 < 0 ∨ 13 ≤ (a1.toNatClampNeg) then none else (
  if 13 ≤ gP σ2 (a1.toNatClampNeg) then none else (
  lt (gP σ2 (a1.toNatClampNeg)) (fun d6 =>
  f_X8_drop_14 FU d6 a1 σ2))))
set_option maxHeartbeats 4000000 in
set_option maxRecDepth 100000 in
theorem c_X8_drop {l : Launch} {D : va_G} {Y : CYs} {E : Nat → Nat} {a1 : Int32} (ht : l.stackTraces = false) {σ : Sta} {o : (Int32 ⊕ String) × Sta} (h : f_X8_drop a1 σ = some o) : MXI l yX8_drop (Cond.code yX8_drop cX8_drop 4 (some .int) :: gW) 8 125 LC Y D E [.ref (E 0), .int a1] σ o := by
  refine Met_ofXI (by decide) (Nat.le_of_ble_eq_true rfl) (fun p e s m args below meth c hF hP htab ls hl => ?_)
  have hS : va_S (AF E LC.length s.heap.size) s.heap s.heap [] := va_S.rf
  have hl : lv_has ls 4 [(0, .ref (E 0)), (1, .int a1)] := hl
  show W p l e (rmx 8 125 o) s m args below meth c s.heap [] 0 0 (QmI below args s LC Y D E o) (F0 m 0 ls [])
  unfold f_X8_drop at h
  obtain ⟨hC, hb, hml, hr, hlk, hD, hSW⟩ := id hF
  have hx := hC.1
  refine lv_aload_n hx hb dX8_drop_0 rfl (lv_at hl 0 rfl) ?_
  refine lv_iload_n hx hb dX8_drop_1 rfl (lv_at hl 1 rfl) ?_
  rcases of_bnx h with ⟨r1, σ2, g3, h⟩ | ⟨X, σ2, g3, rfl⟩
  rotate_left
  · exact x_VT (As := [.int a1]) (rest := []) hF hl hP hS (c_X8_checkStrategy ht g3) (cw_X8_206 hC rfl rfl ⟨Nat.le_of_ble_eq_true rfl, Nat.le_of_ble_eq_true rfl⟩) lc_0 rfl rfl rfl (Nat.le_of_ble_eq_true rfl) dX8_drop_2 ⟨Nat.le_refl _, Nat.le_refl _⟩ (htab _ _ rfl)
  refine x_VV (As := [.int a1]) (rest := []) hF hl hP hS (c_X8_checkStrategy ht g3) (cw_X8_206 hC rfl rfl ⟨Nat.le_of_ble_eq_true rfl, Nat.le_of_ble_eq_true rfl⟩) lc_0 rfl rfl rfl (Nat.le_of_ble_eq_true rfl) dX8_drop_2 ⟨Nat.zero_le _, Nat.zero_le _⟩ (fun H locs hP hS => ?_)
  refine lv_aload_n hx hb dX8_drop_5 rfl (lv_at hl 0 rfl) ?_
  refine gf_X8_73 hC hb hP dX8_drop_6 ?_
  refine lv_iload_n hx hb dX8_drop_9 rfl (lv_at hl 1 rfl) ?_
  obtain ⟨g4, h⟩ := of_gd h
  obtain ⟨g5, h⟩ := of_gd h
  refine x_aald hC hb hP lc_10 g4 dX8_drop_10 (fun d6 ed6 => ?_)
  have h := of_lt h ed6
  have hd6 : d6 < 13 := by rw [ed6]; exact Nat.lt_of_not_le g5
  refine lv_astore_n (lv' := [(2, .ref (E (41 + 5 * d6))), (0, .ref (E 0)), (1, .int a1)]) hx hb dX8_drop_11 rfl hl (by decide) rfl (fun ls hl => ?_)
  refine lv_iload_n hx hb dX8_drop_12 rfl (lv_at hl 2 rfl) ?_
  refine lv_istore_n (lv' := [(3, .int a1), (2, .ref (E (41 + 5 * d6))), (0, .ref (E 0)), (1, .int a1)]) hx hb dX8_drop_13 rfl hl (by decide) rfl (fun ls hl => ?_)
  exact t_X8_drop_14  hF ht htab FU d6 a1 σ2 _ _ _ hd6 h hP hS (lv_sub hl [2, 1, 0] rfl)

def f_X8_reach (a1 : Int32) (a2 : Int32) (σ : Sta) : Option ((Int32 ⊕ String) × Sta) :=
  bnx (f_X8_checkRange a1 0 30 σ) (fun _ σ2 =>
  bnx (f_X8_checkProgram σ2) (fun _ σ5 =>
  bnd (f_X2_extremeChance a1 a2 σ5) (fun r7 σ8 =>
  some (.inl r7, σ8))))
set_option maxHeartbeats 4000000 in
set_option maxRecDepth 100000 in
theorem c_X8_reach {l : Launch} {D : va_G} {Y : CYs} {E : Nat → Nat} {a1 : Int32} {a2 : Int32} (ht : l.stackTraces = false) {σ : Sta} {o : (Int32 ⊕ String) × Sta} (h : f_X8_reach a1 a2 σ = some o) : MXI l yX8_reach (Cond.code yX8_reach cX8_reach 3 (some .int) :: gW) 7 146 LC Y D E [.ref (E 0), .int a1, .int a2] σ o := by
  refine Met_ofXI (by decide) (Nat.le_of_ble_eq_true rfl) (fun p e s m args below meth c hF hP htab ls hl => ?_)
  have hS : va_S (AF E LC.length s.heap.size) s.heap s.heap [] := va_S.rf
  have hl : lv_has ls 3 [(0, .ref (E 0)), (1, .int a1), (2, .int a2)] := hl
  show W p l e (rmx 7 146 o) s m args below meth c s.heap [] 0 0 (QmI below args s LC Y D E o) (F0 m 0 ls [])
  unfold f_X8_reach at h
  obtain ⟨hC, hb, hml, hr, hlk, hD, hSW⟩ := id hF
  have hx := hC.1
  refine lv_aload_n hx hb dX8_reach_0 rfl (lv_at hl 0 rfl) ?_
  refine lv_iload_n hx hb dX8_reach_1 rfl (lv_at hl 1 rfl) ?_
  refine lv_iconst (v := 0) hx hb dX8_reach_2 (by decide) ?_
  refine lv_bipush (v := 30) hx hb dX8_reach_3 (by decide) ?_
  rcases of_bnx h with ⟨r1, σ2, g3, h⟩ | ⟨X, σ2, g3, rfl⟩
  rotate_left
  · exact x_VT (As := [.int a1, .int 0, .int 30]) (rest := []) hF hl hP hS (c_X8_checkRange ht g3) (cw_X8_96 hC rfl rfl ⟨Nat.le_of_ble_eq_true rfl, Nat.le_of_ble_eq_true rfl⟩) lc_0 rfl rfl rfl (Nat.le_of_ble_eq_true rfl) dX8_reach_5 ⟨Nat.le_refl _, Nat.le_refl _⟩ (htab _ _ rfl)
  refine x_VV (As := [.int a1, .int 0, .int 30]) (rest := []) hF hl hP hS (c_X8_checkRange ht g3) (cw_X8_96 hC rfl rfl ⟨Nat.le_of_ble_eq_true rfl, Nat.le_of_ble_eq_true rfl⟩) lc_0 rfl rfl rfl (Nat.le_of_ble_eq_true rfl) dX8_reach_5 ⟨Nat.zero_le _, Nat.zero_le _⟩ (fun H locs hP hS => ?_)
  refine lv_aload_n hx hb dX8_reach_8 rfl (lv_at hl 0 rfl) ?_
  rcases of_bnx h with ⟨r4, σ5, g6, h⟩ | ⟨X, σ5, g6, rfl⟩
  rotate_left
  · exact x_VT (As := []) (rest := []) hF hl hP hS (c_X8_checkProgram ht g6) (cw_X8_192 hC rfl rfl ⟨Nat.le_of_ble_eq_true rfl, Nat.le_of_ble_eq_true rfl⟩) lc_0 rfl rfl rfl (Nat.le_of_ble_eq_true rfl) dX8_reach_9 ⟨Nat.le_refl _, Nat.le_refl _⟩ (htab _ _ rfl)
  refine x_VV (As := []) (rest := []) hF hl hP hS (c_X8_checkProgram ht g6) (cw_X8_192 hC rfl rfl ⟨Nat.le_of_ble_eq_true rfl, Nat.le_of_ble_eq_true rfl⟩) lc_0 rfl rfl rfl (Nat.le_of_ble_eq_true rfl) dX8_reach_9 ⟨Nat.zero_le _, Nat.zero_le _⟩ (fun H locs hP hS => ?_)
  refine lv_aload_n hx hb dX8_reach_12 rfl (lv_at hl 0 rfl) ?_
  refine gf_X8_57 hC hb hP dX8_reach_13 ?_
  refine lv_iload_n hx hb dX8_reach_16 rfl (lv_at hl 1 rfl) ?_
  refine lv_iload_n hx hb dX8_reach_17 rfl (lv_at hl 2 rfl) ?_
  obtain ⟨r7, σ8, g9, h⟩ := of_bnd h
  refine x_VI (As := [.int a1, .int a2]) (rest := []) hF hl hP hS (c_X2_extremeChance g9) (cw_X8_246 hC rfl rfl ⟨Nat.le_of_ble_eq_true rfl, Nat.le_of_ble_eq_true rfl⟩) lc_6 rfl rfl rfl (Nat.le_of_ble_eq_true rfl) dX8_reach_18 ⟨Nat.zero_le _, Nat.zero_le _⟩ (fun H locs hP hS => ?_)
  exact x_iretX hF hP hS h dX8_reach_21

abbrev rm_X8_seed : Room := { frames := 0, cells := 0, slots := 0, locals := 0 }
def f_X8_seed (a1 : Int64) (σ : Sta) : Option (Int64 × Sta) :=
  lt (gL σ 449) (fun x1 =>
  lt (sL σ 449 a1) (fun σ2 =>
  some (x1, σ2)))
set_option maxHeartbeats 4000000 in
set_option maxRecDepth 100000 in
theorem c_X8_seed {l : Launch} {D : va_G} {Y : CYs} {E : Nat → Nat} {a1 : Int64} {σ : Sta} {o : Int64 × Sta} (h : f_X8_seed a1 σ = some o) : ML l yX8_seed (Cond.code yX8_seed cX8_seed 5 (some .long) :: gW) rm_X8_seed LC Y D E [.ref (E 0), .long a1] σ o := by
  intro sz
  refine Met_of (Qc := fun sz => QL LC Y D E sz o) (by decide) (Nat.le_of_ble_eq_true rfl) (fun p e s m args below meth c hF hP ls hl => ?_) sz
  have hS : va_S (AF E LC.length s.heap.size) s.heap s.heap [] := va_S.rf
  have hl : lv_has ls 5 [(0, .ref (E 0)), (1, .long a1)] := hl
  show WL p l e rm_X8_seed s m args below meth c LC Y D E o s.heap [] (F0 m 0 ls [])
  unfold f_X8_seed at h
  obtain ⟨hC, hb, hml, hr, hlk, hD, hSW⟩ := id hF
  have hx := hC.1
  refine lv_aload_n hx hb dX8_seed_0 rfl (lv_at hl 0 rfl) ?_
  refine gf_X8_64 hC hb hP dX8_seed_1 ?_
  refine gf_X8_250 hC hb hP dX8_seed_4 ?_
  refine lv_topl (fun x1 ex1 => ?_)
  have h := of_lt h ex1
  refine lv_lstore_n (lv' := [(3, .long x1), (0, .ref (E 0)), (1, .long a1)]) hx hb dX8_seed_7 rfl hl (by decide) rfl (fun ls hl => ?_)
  refine lv_aload_n hx hb dX8_seed_8 rfl (lv_at hl 1 rfl) ?_
  refine gf_X8_64 hC hb hP dX8_seed_9 ?_
  refine lv_lload_n hx hb dX8_seed_12 rfl (lv_at hl 2 rfl) ?_
  refine pf_X8_250 hC hb hP hD hS dX8_seed_13 (fun H locs σ2 eσ2 hP hS => ?_)
  have h := of_lt h eσ2
  refine lv_lload_n hx hb dX8_seed_16 rfl (lv_at hl 0 rfl) ?_
  exact x_lret hF hP hS h dX8_seed_17

def f_X8_play (a1 : Int32) (σ : Sta) : Option ((Int32 ⊕ String) × Sta) :=
  bnx (f_X8_checkStrategy a1 σ) (fun _ σ2 =>
  if a1 < 0 ∨ 13 ≤ (a1.toNatClampNeg) then none else (
  if 13 ≤ gP σ2 (a1.toNatClampNeg) then none else (
  lt (gP σ2 (a1.toNatClampNeg)) (fun d6 =>
  bnd (f_X3_playOnce d6 σ2) (fun r7 σ8 =>
  some (.inl r7, σ8))))))
set_option maxHeartbeats 4000000 in
set_option maxRecDepth 100000 in
theorem c_X8_play {l : Launch} {D : va_G} {Y : CYs} {E : Nat → Nat} {a1 : Int32} (ht : l.stackTraces = false) {σ : Sta} {o : (Int32 ⊕ String) × Sta} (h : f_X8_play a1 σ = some o) : MXI l yX8_play (Cond.code yX8_play cX8_play 2 (some .int) :: gW) 8 125 LC Y D E [.ref (E 0), .int a1] σ o := by
  refine Met_ofXI (by decide) (Nat.le_of_ble_eq_true rfl) (fun p e s m args below meth c hF hP htab ls hl => ?_)
  have hS : va_S (AF E LC.length s.heap.size) s.heap s.heap [] := va_S.rf
  have hl : lv_has ls 2 [(0, .ref (E 0)), (1, .int a1)] := hl
  show W p l e (rmx 8 125 o) s m args below meth c s.heap [] 0 0 (QmI below args s LC Y D E o) (F0 m 0 ls [])
  unfold f_X8_play at h
  obtain ⟨hC, hb, hml, hr, hlk, hD, hSW⟩ := id hF
  have hx := hC.1
  refine lv_aload_n hx hb dX8_play_0 rfl (lv_at hl 0 rfl) ?_
  refine lv_iload_n hx hb dX8_play_1 rfl (lv_at hl 1 rfl) ?_
  rcases of_bnx h with ⟨r1, σ2, g3, h⟩ | ⟨X, σ2, g3, rfl⟩
  rotate_left
  · exact x_VT (As := [.int a1]) (rest := []) hF hl hP hS (c_X8_checkStrategy ht g3) (cw_X8_206 hC rfl rfl ⟨Nat.le_of_ble_eq_true rfl, Nat.le_of_ble_eq_true rfl⟩) lc_0 rfl rfl rfl (Nat.le_of_ble_eq_true rfl) dX8_play_2 ⟨Nat.le_refl _, Nat.le_refl _⟩ (htab _ _ rfl)
  refine x_VV (As := [.int a1]) (rest := []) hF hl hP hS (c_X8_checkStrategy ht g3) (cw_X8_206 hC rfl rfl ⟨Nat.le_of_ble_eq_true rfl, Nat.le_of_ble_eq_true rfl⟩) lc_0 rfl rfl rfl (Nat.le_of_ble_eq_true rfl) dX8_play_2 ⟨Nat.zero_le _, Nat.zero_le _⟩ (fun H locs hP hS => ?_)
  refine lv_aload_n hx hb dX8_play_5 rfl (lv_at hl 0 rfl) ?_
  refine gf_X8_64 hC hb hP dX8_play_6 ?_
  refine lv_aload_n hx hb dX8_play_9 rfl (lv_at hl 0 rfl) ?_
  refine gf_X8_73 hC hb hP dX8_play_10 ?_
  refine lv_iload_n hx hb dX8_play_13 rfl (lv_at hl 1 rfl) ?_
  obtain ⟨g4, h⟩ := of_gd h
  obtain ⟨g5, h⟩ := of_gd h
  refine x_aald hC hb hP lc_10 g4 dX8_play_14 (fun d6 ed6 => ?_)
  have h := of_lt h ed6
  have hd6 : d6 < 13 := by rw [ed6]; exact Nat.lt_of_not_le g5
  obtain ⟨r7, σ8, g9, h⟩ := of_bnd h
  refine x_VI (As := [.ref (E (41 + 5 * d6))]) (rest := []) hF hl hP hS (c_X3_playOnce hd6 g9) (cw_X8_253 hC rfl rfl ⟨Nat.le_of_ble_eq_true rfl, Nat.le_of_ble_eq_true rfl⟩) lc_7 rfl rfl rfl (Nat.le_of_ble_eq_true rfl) dX8_play_15 ⟨Nat.zero_le _, Nat.zero_le _⟩ (fun H locs hP hS => ?_)
  exact x_iretX hF hP hS h dX8_play_18

def f_X8_played_32 (s0 : Int64) (σ : Sta) : Option ((Int64 ⊕ String) × Sta) :=
  some (.inl s0, σ)
set_option maxHeartbeats 4000000 in
set_option maxRecDepth 100000 in
theorem t_X8_played_32 {l : Launch} {D : va_G} {Y : CYs} {E : Nat → Nat} {p : Program} {e : Env} {s : State} {m : MethodId} {args : Array Value} {below : List Frame} {meth : Method} {c : Code} (hF : Fr p s m args meth c RX8 cX8_played 2 (some .long) D Y E LC) {o : (Int64 ⊕ String) × Sta} (ht : l.stackTraces = false) (htab : ∀ X u, o = (.inr X, u) → ∀ x ∈ c.exceptionTable.toList, False) : ∀ (s0 : Int64) (σ : Sta) (H : Heap) (locs : List Loc) (ls : Array Slot), f_X8_played_32 s0 σ = some o → va_P D vwCl (wd Y E σ 0 LC) H → va_S (AF E LC.length s.heap.size) s.heap H locs → lv_has ls 2 [] → W p l e (rmx 7 104 o) s m args below meth c H locs 0 0 (QmL below args s LC Y D E o) (F0 m 32 ls [.long s0]) := by
  intro s0 σ H locs ls h hP hS hl
  unfold f_X8_played_32 at h
  obtain ⟨hC, hb, hml, hr, hlk, hD, hSW⟩ := id hF
  have hx := hC.1
  exact x_lretX hF hP hS h dX8_played_32

def f_X8_played (a1 : Int32) (σ : Sta) : Option ((Int64 ⊕ String) × Sta) :=
  bnx (f_X8_checkIndex a1 4 σ) (fun _ σ2 =>
  if a1 = 0 then
    f_X8_played_32 ((gI σ2 450).toInt64) σ2
  else
    if a1 - 1 < 0 ∨ 3 ≤ ((a1 - 1).toNatClampNeg) then none else (
    f_X8_played_32 (gJ σ2 40 ((a1 - 1).toNatClampNeg)) σ2))
set_option maxHeartbeats 4000000 in
set_option maxRecDepth 100000 in
theorem c_X8_played {l : Launch} {D : va_G} {Y : CYs} {E : Nat → Nat} {a1 : Int32} (ht : l.stackTraces = false) {σ : Sta} {o : (Int64 ⊕ String) × Sta} (h : f_X8_played a1 σ = some o) : MXL l yX8_played (Cond.code yX8_played cX8_played 2 (some .long) :: gW) 7 104 LC Y D E [.ref (E 0), .int a1] σ o := by
  refine Met_ofXL (by decide) (Nat.le_of_ble_eq_true rfl) (fun p e s m args below meth c hF hP htab ls hl => ?_)
  have hS : va_S (AF E LC.length s.heap.size) s.heap s.heap [] := va_S.rf
  have hl : lv_has ls 2 [(0, .ref (E 0)), (1, .int a1)] := hl
  show W p l e (rmx 7 104 o) s m args below meth c s.heap [] 0 0 (QmL below args s LC Y D E o) (F0 m 0 ls [])
  unfold f_X8_played at h
  obtain ⟨hC, hb, hml, hr, hlk, hD, hSW⟩ := id hF
  have hx := hC.1
  refine lv_aload_n hx hb dX8_played_0 rfl (lv_at hl 0 rfl) ?_
  refine lv_iload_n hx hb dX8_played_1 rfl (lv_at hl 1 rfl) ?_
  refine lv_iconst (v := 4) hx hb dX8_played_2 (by decide) ?_
  rcases of_bnx h with ⟨r1, σ2, g3, h⟩ | ⟨X, σ2, g3, rfl⟩
  rotate_left
  · exact x_VT (As := [.int a1, .int 4]) (rest := []) hF hl hP hS (c_X8_checkIndex ht g3) (cw_X8_157 hC rfl rfl ⟨Nat.le_of_ble_eq_true rfl, Nat.le_of_ble_eq_true rfl⟩) lc_0 rfl rfl rfl (Nat.le_of_ble_eq_true rfl) dX8_played_3 ⟨Nat.le_refl _, Nat.le_refl _⟩ (htab _ _ rfl)
  refine x_VV (As := [.int a1, .int 4]) (rest := []) hF hl hP hS (c_X8_checkIndex ht g3) (cw_X8_157 hC rfl rfl ⟨Nat.le_of_ble_eq_true rfl, Nat.le_of_ble_eq_true rfl⟩) lc_0 rfl rfl rfl (Nat.le_of_ble_eq_true rfl) dX8_played_3 ⟨Nat.zero_le _, Nat.zero_le _⟩ (fun H locs hP hS => ?_)
  refine lv_iload_n hx hb dX8_played_6 rfl (lv_at hl 1 rfl) ?_
  refine lv_if_ne (tgt := 21) hx hb dX8_played_7 (by decide) (fun c4 => ?_) (fun c4 => ?_)
  · have h := of_f h c4
    refine lv_aload_n hx hb dX8_played_21 rfl (lv_at hl 0 rfl) ?_
    refine gf_X8_64 hC hb hP dX8_played_22 ?_
    refine gf_X8_258 hC hb hP dX8_played_25 ?_
    refine lv_iload_n hx hb dX8_played_28 rfl (lv_at hl 1 rfl) ?_
    refine lv_iconst (v := 1) hx hb dX8_played_29 (by decide) ?_
    refine lv_isub hx hb dX8_played_30 ?_
    obtain ⟨g5, h⟩ := of_gd h
    refine x_lald hC hb hP lc_40 g5 dX8_played_31 ?_
    exact t_X8_played_32  hF ht htab (gJ σ2 40 ((a1 - 1).toNatClampNeg)) σ2 _ _ _ h hP hS (lv_sub hl [] rfl)
  · have h := of_t h c4
    refine lv_aload_n hx hb dX8_played_10 rfl (lv_at hl 0 rfl) ?_
    refine gf_X8_64 hC hb hP dX8_played_11 ?_
    refine gf_X8_257 hC hb hP dX8_played_14 ?_
    refine lv_i2l (v := (gI σ2 450).toInt64) hx hb dX8_played_17 rfl ?_
    refine lv_goto (tgt := 32) hx hb dX8_played_18 (by decide) ?_
    exact t_X8_played_32  hF ht htab ((gI σ2 450).toInt64) σ2 _ _ _ h hP hS (lv_sub hl [] rfl)

def f_X8_average_24 : Nat → Int32 → Int32 → Int32 → Int64 → Int32 → Sta → Option ((UInt64 ⊕ String) × Sta)
  | 0, _, _, _, _, _, _ => none
  | n + 1, v1, v2, v3, v4, v6, σ => if v3 ≤ v6 then
      if ¬ ((FP.ddiv (FP.l2d v4) (FP.i2d v3)) &&& 0x7fffffffffffffff ≤ 0x7ff0000000000000) then none else (
      some (.inl (FP.ddiv (FP.l2d v4) (FP.i2d v3)), σ))
    else
      if v1 < 0 ∨ 13 ≤ (v1.toNatClampNeg) then none else (
      if 13 ≤ gP σ (v1.toNatClampNeg) then none else (
      lt (gP σ (v1.toNatClampNeg)) (fun d5 =>
      bnd (f_X3_playOnce d5 σ) (fun r6 σ7 =>
      if v2 < 0 ∨ 3 ≤ (v2.toNatClampNeg) then none else (
      lt (v4 + (gJ σ7 40 (v2.toNatClampNeg))) (fun x10 =>
      lt (v6 + 1) (fun x11 =>
      f_X8_average_24 n v1 v2 v3 x10 x11 σ7)))))))
set_option maxHeartbeats 4000000 in
set_option maxRecDepth 100000 in
theorem t_X8_average_24 {l : Launch} {D : va_G} {Y : CYs} {E : Nat → Nat} {p : Program} {e : Env} {s : State} {m : MethodId} {args : Array Value} {below : List Frame} {meth : Method} {c : Code} (hF : Fr p s m args meth c RX8 cX8_average 7 (some .double) D Y E LC) {o : (UInt64 ⊕ String) × Sta} (ht : l.stackTraces = false) (htab : ∀ X u, o = (.inr X, u) → ∀ x ∈ c.exceptionTable.toList, False) : ∀ (n : Nat) (v1 : Int32) (v2 : Int32) (v3 : Int32) (v4 : Int64) (v6 : Int32) (σ : Sta) (H : Heap) (locs : List Loc) (ls : Array Slot), f_X8_average_24 n v1 v2 v3 v4 v6 σ = some o → va_P D vwCl (wd Y E σ 0 LC) H → va_S (AF E LC.length s.heap.size) s.heap H locs → lv_has ls 7 [(0, .ref (E 0)), (1, .int v1), (2, .int v2), (3, .int v3), (4, .long v4), (6, .int v6)] → W p l e (rmx 8 125 o) s m args below meth c H locs 0 0 (QmD below args s LC Y D E o) (F0 m 24 ls []) := by
  intro n
  induction n with
  | zero =>
    intro v1 v2 v3 v4 v6 σ H locs ls h hP hS hl
    exact nomatch (show (none : Option ((UInt64 ⊕ String) × Sta)) = some o from h)
  | succ n ih =>
    intro v1 v2 v3 v4 v6 σ H locs ls h hP hS hl
    rw [f_X8_average_24] at h
    obtain ⟨hC, hb, hml, hr, hlk, hD, hSW⟩ := id hF
    have hx := hC.1
    refine lv_iload hx hb dX8_average_24 (lv_at hl 5 rfl) ?_
    refine lv_iload_n hx hb dX8_average_26 rfl (lv_at hl 3 rfl) ?_
    refine lv_icmp_ge (tgt := 64) hx hb dX8_average_27 (by decide) (fun c1 => ?_) (fun c1 => ?_)
    · have h := of_t h c1
      refine lv_lload hx hb dX8_average_64 (lv_at hl 4 rfl) ?_
      refine lv_l2d hx hb dX8_average_66 ?_
      refine lv_iload_n hx hb dX8_average_67 rfl (lv_at hl 3 rfl) ?_
      refine lv_i2d hx hb dX8_average_68 ?_
      obtain ⟨g2, h⟩ := of_gd h
      refine lv_ddiv hx hb dX8_average_69 (Classical.not_not.mp g2) ?_
      exact x_dretX hF hP hS h dX8_average_70
    · have h := of_f h c1
      refine lv_aload_n hx hb dX8_average_30 rfl (lv_at hl 0 rfl) ?_
      refine gf_X8_64 hC hb hP dX8_average_31 ?_
      refine lv_aload_n hx hb dX8_average_34 rfl (lv_at hl 0 rfl) ?_
      refine gf_X8_73 hC hb hP dX8_average_35 ?_
      refine lv_iload_n hx hb dX8_average_38 rfl (lv_at hl 1 rfl) ?_
      obtain ⟨g3, h⟩ := of_gd h
      obtain ⟨g4, h⟩ := of_gd h
      refine x_aald hC hb hP lc_10 g3 dX8_average_39 (fun d5 ed5 => ?_)
      have h := of_lt h ed5
      have hd5 : d5 < 13 := by rw [ed5]; exact Nat.lt_of_not_le g4
      obtain ⟨r6, σ7, g8, h⟩ := of_bnd h
      refine x_VI (As := [.ref (E (41 + 5 * d5))]) (rest := []) hF hl hP hS (c_X3_playOnce hd5 g8) (cw_X8_253 hC rfl rfl ⟨Nat.le_of_ble_eq_true rfl, Nat.le_of_ble_eq_true rfl⟩) lc_7 rfl rfl rfl (Nat.le_of_ble_eq_true rfl) dX8_average_40 ⟨Nat.zero_le _, Nat.zero_le _⟩ (fun H locs hP hS => ?_)
      refine lv_pop hx hb dX8_average_43 rfl ?_
      refine lv_lload hx hb dX8_average_44 (lv_at hl 4 rfl) ?_
      refine lv_aload_n hx hb dX8_average_46 rfl (lv_at hl 0 rfl) ?_
      refine gf_X8_64 hC hb hP dX8_average_47 ?_
      refine gf_X8_258 hC hb hP dX8_average_50 ?_
      refine lv_iload_n hx hb dX8_average_53 rfl (lv_at hl 2 rfl) ?_
      obtain ⟨g9, h⟩ := of_gd h
      refine x_lald hC hb hP lc_40 g9 dX8_average_54 ?_
      refine lv_ladd hx hb dX8_average_55 ?_
      refine lv_topl (fun x10 ex10 => ?_)
      have h := of_lt h ex10
      refine lv_lstore (lv' := [(4, .long x10), (0, .ref (E 0)), (1, .int v1), (2, .int v2), (3, .int v3), (6, .int v6)]) hx hb dX8_average_56 hl (by decide) rfl (fun ls hl => ?_)
      obtain ⟨x11, ex11⟩ : ∃ y : Int32, y = v6 + 1 := ⟨_, rfl⟩
      have h := of_lt h ex11
      refine lv_iinc (v := x11) (lv' := [(6, .int x11), (4, .long x10), (0, .ref (E 0)), (1, .int v1), (2, .int v2), (3, .int v3)]) hx hb dX8_average_58 hl (k := 5) rfl (by rw [ex11]; rfl) (by decide) rfl (fun ls hl => ?_)
      refine lv_goto (tgt := 24) hx hb dX8_average_61 (by decide) ?_
      exact ih v1 v2 v3 x10 x11 σ7 _ _ _ h hP hS (lv_sub hl [2, 3, 4, 5, 1, 0] rfl)

def f_X8_average (a1 : Int32) (a2 : Int32) (a3 : Int32) (σ : Sta) : Option ((UInt64 ⊕ String) × Sta) :=
  bnx (f_X8_checkStrategy a1 σ) (fun _ σ2 =>
  bnx (f_X8_checkGain a2 σ2) (fun _ σ5 =>
  bnx (f_X8_checkRange a3 1 20 σ5) (fun _ σ8 =>
  f_X8_average_24 FU a1 a2 a3 0 0 σ8)))
set_option maxHeartbeats 4000000 in
set_option maxRecDepth 100000 in
theorem c_X8_average {l : Launch} {D : va_G} {Y : CYs} {E : Nat → Nat} {a1 : Int32} {a2 : Int32} {a3 : Int32} (ht : l.stackTraces = false) {σ : Sta} {o : (UInt64 ⊕ String) × Sta} (h : f_X8_average a1 a2 a3 σ = some o) : MXD l yX8_average (Cond.code yX8_average cX8_average 7 (some .double) :: gW) 8 125 LC Y D E [.ref (E 0), .int a1, .int a2, .int a3] σ o := by
  refine Met_ofXD (by decide) (Nat.le_of_ble_eq_true rfl) (fun p e s m args below meth c hF hP htab ls hl => ?_)
  have hS : va_S (AF E LC.length s.heap.size) s.heap s.heap [] := va_S.rf
  have hl : lv_has ls 7 [(0, .ref (E 0)), (1, .int a1), (2, .int a2), (3, .int a3)] := hl
  show W p l e (rmx 8 125 o) s m args below meth c s.heap [] 0 0 (QmD below args s LC Y D E o) (F0 m 0 ls [])
  unfold f_X8_average at h
  obtain ⟨hC, hb, hml, hr, hlk, hD, hSW⟩ := id hF
  have hx := hC.1
  refine lv_aload_n hx hb dX8_average_0 rfl (lv_at hl 0 rfl) ?_
  refine lv_iload_n hx hb dX8_average_1 rfl (lv_at hl 1 rfl) ?_
  rcases of_bnx h with ⟨r1, σ2, g3, h⟩ | ⟨X, σ2, g3, rfl⟩
  rotate_left
  · exact x_VT (As := [.int a1]) (rest := []) hF hl hP hS (c_X8_checkStrategy ht g3) (cw_X8_206 hC rfl rfl ⟨Nat.le_of_ble_eq_true rfl, Nat.le_of_ble_eq_true rfl⟩) lc_0 rfl rfl rfl (Nat.le_of_ble_eq_true rfl) dX8_average_2 ⟨Nat.le_refl _, Nat.le_refl _⟩ (htab _ _ rfl)
  refine x_VV (As := [.int a1]) (rest := []) hF hl hP hS (c_X8_checkStrategy ht g3) (cw_X8_206 hC rfl rfl ⟨Nat.le_of_ble_eq_true rfl, Nat.le_of_ble_eq_true rfl⟩) lc_0 rfl rfl rfl (Nat.le_of_ble_eq_true rfl) dX8_average_2 ⟨Nat.zero_le _, Nat.zero_le _⟩ (fun H locs hP hS => ?_)
  refine lv_aload_n hx hb dX8_average_5 rfl (lv_at hl 0 rfl) ?_
  refine lv_iload_n hx hb dX8_average_6 rfl (lv_at hl 2 rfl) ?_
  rcases of_bnx h with ⟨r4, σ5, g6, h⟩ | ⟨X, σ5, g6, rfl⟩
  rotate_left
  · exact x_VT (As := [.int a2]) (rest := []) hF hl hP hS (c_X8_checkGain ht g6) (cw_X8_178 hC rfl rfl ⟨Nat.le_of_ble_eq_true rfl, Nat.le_of_ble_eq_true rfl⟩) lc_0 rfl rfl rfl (Nat.le_of_ble_eq_true rfl) dX8_average_7 ⟨Nat.le_refl _, Nat.le_refl _⟩ (htab _ _ rfl)
  refine x_VV (As := [.int a2]) (rest := []) hF hl hP hS (c_X8_checkGain ht g6) (cw_X8_178 hC rfl rfl ⟨Nat.le_of_ble_eq_true rfl, Nat.le_of_ble_eq_true rfl⟩) lc_0 rfl rfl rfl (Nat.le_of_ble_eq_true rfl) dX8_average_7 ⟨Nat.zero_le _, Nat.zero_le _⟩ (fun H locs hP hS => ?_)
  refine lv_aload_n hx hb dX8_average_10 rfl (lv_at hl 0 rfl) ?_
  refine lv_iload_n hx hb dX8_average_11 rfl (lv_at hl 3 rfl) ?_
  refine lv_iconst (v := 1) hx hb dX8_average_12 (by decide) ?_
  refine lv_bipush (v := 20) hx hb dX8_average_13 (by decide) ?_
  rcases of_bnx h with ⟨r7, σ8, g9, h⟩ | ⟨X, σ8, g9, rfl⟩
  rotate_left
  · exact x_VT (As := [.int a3, .int 1, .int 20]) (rest := []) hF hl hP hS (c_X8_checkRange ht g9) (cw_X8_96 hC rfl rfl ⟨Nat.le_of_ble_eq_true rfl, Nat.le_of_ble_eq_true rfl⟩) lc_0 rfl rfl rfl (Nat.le_of_ble_eq_true rfl) dX8_average_15 ⟨Nat.le_refl _, Nat.le_refl _⟩ (htab _ _ rfl)
  refine x_VV (As := [.int a3, .int 1, .int 20]) (rest := []) hF hl hP hS (c_X8_checkRange ht g9) (cw_X8_96 hC rfl rfl ⟨Nat.le_of_ble_eq_true rfl, Nat.le_of_ble_eq_true rfl⟩) lc_0 rfl rfl rfl (Nat.le_of_ble_eq_true rfl) dX8_average_15 ⟨Nat.zero_le _, Nat.zero_le _⟩ (fun H locs hP hS => ?_)
  refine lv_lconst (v := 0) hx hb dX8_average_18 (by decide) ?_
  refine lv_lstore (lv' := [(4, .long 0), (0, .ref (E 0)), (1, .int a1), (2, .int a2), (3, .int a3)]) hx hb dX8_average_19 hl (by decide) rfl (fun ls hl => ?_)
  refine lv_iconst (v := 0) hx hb dX8_average_21 (by decide) ?_
  refine lv_istore (lv' := [(6, .int 0), (4, .long 0), (0, .ref (E 0)), (1, .int a1), (2, .int a2), (3, .int a3)]) hx hb dX8_average_22 hl (by decide) rfl (fun ls hl => ?_)
  exact t_X8_average_24  hF ht htab FU a1 a2 a3 0 0 σ8 _ _ _ h hP hS (lv_sub hl [2, 3, 4, 5, 1, 0] rfl)

abbrev rm_X8_digestOfStrategies : Room := { frames := 2, cells := 0, slots := 0, locals := 43 }
def f_X8_digestOfStrategies_88 (k5 : Int64 → Int32 → Sta → Option (Int64 × Sta)) : Nat → Int64 → Int32 → Nat → Int32 → Sta → Option (Int64 × Sta)
  | 0, _, _, _, _, _ => none
  | n + 1, v3, v5, dv6, v7, σ => if gI σ 322 ≤ v7 then
      lt (v5 + 1) (fun x2 =>
      k5 v3 x2 σ)
    else
      bnd (f_X6_takenIn dv6 v7 (gI σ (64 * (41 + 5 * dv6) + 1)) σ) (fun r3 σ4 =>
      lt ((v3 * 31) + r3.toInt64) (fun x6 =>
      lt (v7 + 1) (fun x7 =>
      f_X8_digestOfStrategies_88 k5 n x6 v5 dv6 x7 σ4)))
set_option maxHeartbeats 4000000 in
set_option maxRecDepth 100000 in
theorem t_X8_digestOfStrategies_88 {l : Launch} {D : va_G} {Y : CYs} {E : Nat → Nat} {p : Program} {e : Env} {s : State} {m : MethodId} {args : Array Value} {below : List Frame} {meth : Method} {c : Code} (hF : Fr p s m args meth c RX8 cX8_digestOfStrategies 8 (some .long) D Y E LC) {o : Int64 × Sta} (k5 : Int64 → Int32 → Sta → Option (Int64 × Sta)) (hk5 : ∀ (v3 : Int64) (v5 : Int32) (σ : Sta) (H : Heap) (locs : List Loc) (ls : Array Slot), k5 v3 v5 σ = some o → va_P D vwCl (wd Y E σ 0 LC) H → va_S (AF E LC.length s.heap.size) s.heap H locs → lv_has ls 8 [(0, .ref (E 0)), (3, .long v3), (5, .int v5)] → WL p l e rm_X8_digestOfStrategies s m args below meth c LC Y D E o H locs (F0 m 5 ls [])) : ∀ (n : Nat) (v3 : Int64) (v5 : Int32) (dv6 : Nat) (v7 : Int32) (σ : Sta) (H : Heap) (locs : List Loc) (ls : Array Slot), dv6 < 13 → f_X8_digestOfStrategies_88 k5 n v3 v5 dv6 v7 σ = some o → va_P D vwCl (wd Y E σ 0 LC) H → va_S (AF E LC.length s.heap.size) s.heap H locs → lv_has ls 8 [(0, .ref (E 0)), (3, .long v3), (5, .int v5), (6, .ref (E (41 + 5 * dv6))), (7, .int v7)] → WL p l e rm_X8_digestOfStrategies s m args below meth c LC Y D E o H locs (F0 m 88 ls []) := by
  intro n
  induction n with
  | zero =>
    intro v3 v5 dv6 v7 σ H locs ls hdv6 h hP hS hl
    exact nomatch (show (none : Option (Int64 × Sta)) = some o from h)
  | succ n ih =>
    intro v3 v5 dv6 v7 σ H locs ls hdv6 h hP hS hl
    rw [f_X8_digestOfStrategies_88] at h
    obtain ⟨hC, hb, hml, hr, hlk, hD, hSW⟩ := id hF
    have hx := hC.1
    refine lv_iload hx hb dX8_digestOfStrategies_88 (lv_at hl 4 rfl) ?_
    refine lv_aload_n hx hb dX8_digestOfStrategies_90 rfl (lv_at hl 0 rfl) ?_
    refine gf_X8_48 hC hb hP dX8_digestOfStrategies_91 ?_
    refine gf_X8_129 hC hb hP dX8_digestOfStrategies_94 ?_
    refine lv_icmp_ge (tgt := 126) hx hb dX8_digestOfStrategies_97 (by decide) (fun c1 => ?_) (fun c1 => ?_)
    · have h := of_t h c1
      obtain ⟨x2, ex2⟩ : ∃ y : Int32, y = v5 + 1 := ⟨_, rfl⟩
      have h := of_lt h ex2
      refine lv_iinc (v := x2) (lv' := [(5, .int x2), (0, .ref (E 0)), (3, .long v3), (6, .ref (E (41 + 5 * dv6))), (7, .int v7)]) hx hb dX8_digestOfStrategies_126 hl (k := 2) rfl (by rw [ex2]; rfl) (by decide) rfl (fun ls hl => ?_)
      refine lv_goto (tgt := 5) hx hb dX8_digestOfStrategies_129 (by decide) ?_
      exact hk5 v3 x2 σ _ _ _ h hP hS (lv_sub hl [1, 2, 0] rfl)
    · have h := of_f h c1
      refine lv_lload_n hx hb dX8_digestOfStrategies_100 rfl (lv_at hl 1 rfl) ?_
      refine lv_ldc2 (v := 31) hx hb hC.2.2.1 (hC.2.1 (Cond.constantLong RX8 263 31) (gw_t (tb4 (List.mem_of_getElem? (i := 62) rfl)) rfl)) dX8_digestOfStrategies_101 ?_
      refine lv_lmul hx hb dX8_digestOfStrategies_104 ?_
      refine lv_aload hx hb dX8_digestOfStrategies_105 (lv_at hl 3 rfl) ?_
      refine lv_iload hx hb dX8_digestOfStrategies_107 (lv_at hl 4 rfl) ?_
      refine lv_aload hx hb dX8_digestOfStrategies_109 (lv_at hl 3 rfl) ?_
      refine gf_X8_199 hC hb hP hdv6 dX8_digestOfStrategies_111 ?_
      obtain ⟨r3, σ4, g5, h⟩ := of_bnd h
      refine x_VI (As := [.int v7, .int (gI σ (64 * (41 + 5 * dv6) + 1))]) (rest := [.long (v3 * 31)]) hF hl hP hS (c_X6_takenIn hdv6 g5) (cw_X8_209 hC rfl rfl ⟨Nat.le_of_ble_eq_true rfl, Nat.le_of_ble_eq_true rfl⟩) (lc_s0 hdv6) rfl rfl rfl (Nat.le_of_ble_eq_true rfl) dX8_digestOfStrategies_114 ⟨Nat.zero_le _, Nat.zero_le _⟩ (fun H locs hP hS => ?_)
      refine lv_i2l (v := r3.toInt64) hx hb dX8_digestOfStrategies_117 rfl ?_
      refine lv_ladd hx hb dX8_digestOfStrategies_118 ?_
      refine lv_topl (fun x6 ex6 => ?_)
      have h := of_lt h ex6
      refine lv_lstore_n (lv' := [(3, .long x6), (0, .ref (E 0)), (5, .int v5), (6, .ref (E (41 + 5 * dv6))), (7, .int v7)]) hx hb dX8_digestOfStrategies_119 rfl hl (by decide) rfl (fun ls hl => ?_)
      obtain ⟨x7, ex7⟩ : ∃ y : Int32, y = v7 + 1 := ⟨_, rfl⟩
      have h := of_lt h ex7
      refine lv_iinc (v := x7) (lv' := [(7, .int x7), (3, .long x6), (0, .ref (E 0)), (5, .int v5), (6, .ref (E (41 + 5 * dv6)))]) hx hb dX8_digestOfStrategies_120 hl (k := 4) rfl (by rw [ex7]; rfl) (by decide) rfl (fun ls hl => ?_)
      refine lv_goto (tgt := 88) hx hb dX8_digestOfStrategies_123 (by decide) ?_
      exact ih x6 v5 dv6 x7 σ4 _ _ _ hdv6 h hP hS (lv_sub hl [2, 1, 3, 4, 0] rfl)

def f_X8_digestOfStrategies_39 (k5 : Int64 → Int32 → Sta → Option (Int64 × Sta)) : Nat → Int64 → Int32 → Nat → Int32 → Sta → Option (Int64 × Sta)
  | 0, _, _, _, _, _ => none
  | n + 1, v3, v5, dv6, v7, σ => if gI σ 197 ≤ v7 then
      lt ((v3 * 31) + ((gI σ (64 * (41 + 5 * dv6) + 5)).toInt64)) (fun x2 =>
      f_X8_digestOfStrategies_88 k5 FU x2 v5 dv6 0 σ)
    else
      if v7 < 0 ∨ 3 ≤ (v7.toNatClampNeg) then none else (
      lt ((v3 * 31) + (gJ σ (41 + 5 * dv6 + 4) (v7.toNatClampNeg))) (fun x4 =>
      lt (v7 + 1) (fun x5 =>
      f_X8_digestOfStrategies_39 k5 n x4 v5 dv6 x5 σ)))
set_option maxHeartbeats 4000000 in
set_option maxRecDepth 100000 in
theorem t_X8_digestOfStrategies_39 {l : Launch} {D : va_G} {Y : CYs} {E : Nat → Nat} {p : Program} {e : Env} {s : State} {m : MethodId} {args : Array Value} {below : List Frame} {meth : Method} {c : Code} (hF : Fr p s m args meth c RX8 cX8_digestOfStrategies 8 (some .long) D Y E LC) {o : Int64 × Sta} (k5 : Int64 → Int32 → Sta → Option (Int64 × Sta)) (hk5 : ∀ (v3 : Int64) (v5 : Int32) (σ : Sta) (H : Heap) (locs : List Loc) (ls : Array Slot), k5 v3 v5 σ = some o → va_P D vwCl (wd Y E σ 0 LC) H → va_S (AF E LC.length s.heap.size) s.heap H locs → lv_has ls 8 [(0, .ref (E 0)), (3, .long v3), (5, .int v5)] → WL p l e rm_X8_digestOfStrategies s m args below meth c LC Y D E o H locs (F0 m 5 ls [])) : ∀ (n : Nat) (v3 : Int64) (v5 : Int32) (dv6 : Nat) (v7 : Int32) (σ : Sta) (H : Heap) (locs : List Loc) (ls : Array Slot), dv6 < 13 → f_X8_digestOfStrategies_39 k5 n v3 v5 dv6 v7 σ = some o → va_P D vwCl (wd Y E σ 0 LC) H → va_S (AF E LC.length s.heap.size) s.heap H locs → lv_has ls 8 [(0, .ref (E 0)), (3, .long v3), (5, .int v5), (6, .ref (E (41 + 5 * dv6))), (7, .int v7)] → WL p l e rm_X8_digestOfStrategies s m args below meth c LC Y D E o H locs (F0 m 39 ls []) := by
  intro n
  induction n with
  | zero =>
    intro v3 v5 dv6 v7 σ H locs ls hdv6 h hP hS hl
    exact nomatch (show (none : Option (Int64 × Sta)) = some o from h)
  | succ n ih =>
    intro v3 v5 dv6 v7 σ H locs ls hdv6 h hP hS hl
    rw [f_X8_digestOfStrategies_39] at h
    obtain ⟨hC, hb, hml, hr, hlk, hD, hSW⟩ := id hF
    have hx := hC.1
    refine lv_iload hx hb dX8_digestOfStrategies_39 (lv_at hl 4 rfl) ?_
    refine lv_aload_n hx hb dX8_digestOfStrategies_41 rfl (lv_at hl 0 rfl) ?_
    refine gf_X8_30 hC hb hP dX8_digestOfStrategies_42 ?_
    refine gf_X8_123 hC hb hP dX8_digestOfStrategies_45 ?_
    refine lv_icmp_ge (tgt := 72) hx hb dX8_digestOfStrategies_48 (by decide) (fun c1 => ?_) (fun c1 => ?_)
    · have h := of_t h c1
      refine lv_lload_n hx hb dX8_digestOfStrategies_72 rfl (lv_at hl 1 rfl) ?_
      refine lv_ldc2 (v := 31) hx hb hC.2.2.1 (hC.2.1 (Cond.constantLong RX8 263 31) (gw_t (tb4 (List.mem_of_getElem? (i := 62) rfl)) rfl)) dX8_digestOfStrategies_73 ?_
      refine lv_lmul hx hb dX8_digestOfStrategies_76 ?_
      refine lv_aload hx hb dX8_digestOfStrategies_77 (lv_at hl 3 rfl) ?_
      refine gf_X8_222 hC hb hP hdv6 dX8_digestOfStrategies_79 ?_
      refine lv_i2l (v := (gI σ (64 * (41 + 5 * dv6) + 5)).toInt64) hx hb dX8_digestOfStrategies_82 rfl ?_
      refine lv_ladd hx hb dX8_digestOfStrategies_83 ?_
      refine lv_topl (fun x2 ex2 => ?_)
      have h := of_lt h ex2
      refine lv_lstore_n (lv' := [(3, .long x2), (0, .ref (E 0)), (5, .int v5), (6, .ref (E (41 + 5 * dv6))), (7, .int v7)]) hx hb dX8_digestOfStrategies_84 rfl hl (by decide) rfl (fun ls hl => ?_)
      refine lv_iconst (v := 0) hx hb dX8_digestOfStrategies_85 (by decide) ?_
      refine lv_istore (lv' := [(7, .int 0), (3, .long x2), (0, .ref (E 0)), (5, .int v5), (6, .ref (E (41 + 5 * dv6)))]) hx hb dX8_digestOfStrategies_86 hl (by decide) rfl (fun ls hl => ?_)
      exact t_X8_digestOfStrategies_88  hF k5 hk5 FU x2 v5 dv6 0 σ _ _ _ hdv6 h hP hS (lv_sub hl [2, 1, 3, 4, 0] rfl)
    · have h := of_f h c1
      refine lv_lload_n hx hb dX8_digestOfStrategies_51 rfl (lv_at hl 1 rfl) ?_
      refine lv_ldc2 (v := 31) hx hb hC.2.2.1 (hC.2.1 (Cond.constantLong RX8 263 31) (gw_t (tb4 (List.mem_of_getElem? (i := 62) rfl)) rfl)) dX8_digestOfStrategies_52 ?_
      refine lv_lmul hx hb dX8_digestOfStrategies_55 ?_
      refine lv_aload hx hb dX8_digestOfStrategies_56 (lv_at hl 3 rfl) ?_
      refine gf_X8_219 hC hb hP hdv6 dX8_digestOfStrategies_58 ?_
      refine lv_iload hx hb dX8_digestOfStrategies_61 (lv_at hl 4 rfl) ?_
      obtain ⟨g3, h⟩ := of_gd h
      refine x_lald hC hb hP (lc_s4 hdv6) g3 dX8_digestOfStrategies_63 ?_
      refine lv_ladd hx hb dX8_digestOfStrategies_64 ?_
      refine lv_topl (fun x4 ex4 => ?_)
      have h := of_lt h ex4
      refine lv_lstore_n (lv' := [(3, .long x4), (0, .ref (E 0)), (5, .int v5), (6, .ref (E (41 + 5 * dv6))), (7, .int v7)]) hx hb dX8_digestOfStrategies_65 rfl hl (by decide) rfl (fun ls hl => ?_)
      obtain ⟨x5, ex5⟩ : ∃ y : Int32, y = v7 + 1 := ⟨_, rfl⟩
      have h := of_lt h ex5
      refine lv_iinc (v := x5) (lv' := [(7, .int x5), (3, .long x4), (0, .ref (E 0)), (5, .int v5), (6, .ref (E (41 + 5 * dv6)))]) hx hb dX8_digestOfStrategies_66 hl (k := 4) rfl (by rw [ex5]; rfl) (by decide) rfl (fun ls hl => ?_)
      refine lv_goto (tgt := 39) hx hb dX8_digestOfStrategies_69 (by decide) ?_
      exact ih x4 v5 dv6 x5 σ _ _ _ hdv6 h hP hS (lv_sub hl [2, 1, 3, 4, 0] rfl)

def f_X8_digestOfStrategies_5 : Nat → Int64 → Int32 → Sta → Option (Int64 × Sta)
  | 0, _, _, _ => none
  | n + 1, v3, v5, σ => if gI σ 11 ≤ v5 then
      some (v3, σ)
    else
      if v5 < 0 ∨ 13 ≤ (v5.toNatClampNeg) then none else (
      if 13 ≤ gP σ (v5.toNatClampNeg) then none else (
      lt (gP σ (v5.toNatClampNeg)) (fun d4 =>
      lt ((v3 * 31) + ((gI σ (64 * (41 + 5 * d4) + 1)).toInt64)) (fun x5 =>
      f_X8_digestOfStrategies_39 (f_X8_digestOfStrategies_5 n) FU x5 v5 d4 0 σ))))
set_option maxHeartbeats 4000000 in
set_option maxRecDepth 100000 in
theorem t_X8_digestOfStrategies_5 {l : Launch} {D : va_G} {Y : CYs} {E : Nat → Nat} {p : Program} {e : Env} {s : State} {m : MethodId} {args : Array Value} {below : List Frame} {meth : Method} {c : Code} (hF : Fr p s m args meth c RX8 cX8_digestOfStrategies 8 (some .long) D Y E LC) {o : Int64 × Sta} : ∀ (n : Nat) (v3 : Int64) (v5 : Int32) (σ : Sta) (H : Heap) (locs : List Loc) (ls : Array Slot), f_X8_digestOfStrategies_5 n v3 v5 σ = some o → va_P D vwCl (wd Y E σ 0 LC) H → va_S (AF E LC.length s.heap.size) s.heap H locs → lv_has ls 8 [(0, .ref (E 0)), (3, .long v3), (5, .int v5)] → WL p l e rm_X8_digestOfStrategies s m args below meth c LC Y D E o H locs (F0 m 5 ls []) := by
  intro n
  induction n with
  | zero =>
    intro v3 v5 σ H locs ls h hP hS hl
    exact nomatch (show (none : Option (Int64 × Sta)) = some o from h)
  | succ n ih =>
    intro v3 v5 σ H locs ls h hP hS hl
    rw [f_X8_digestOfStrategies_5] at h
    obtain ⟨hC, hb, hml, hr, hlk, hD, hSW⟩ := id hF
    have hx := hC.1
    refine lv_iload hx hb dX8_digestOfStrategies_5 (lv_at hl 2 rfl) ?_
    refine lv_aload_n hx hb dX8_digestOfStrategies_7 rfl (lv_at hl 0 rfl) ?_
    refine gf_X8_132 hC hb hP dX8_digestOfStrategies_8 ?_
    refine lv_icmp_ge (tgt := 132) hx hb dX8_digestOfStrategies_11 (by decide) (fun c1 => ?_) (fun c1 => ?_)
    · have h := of_t h c1
      refine lv_lload_n hx hb dX8_digestOfStrategies_132 rfl (lv_at hl 1 rfl) ?_
      exact x_lret hF hP hS h dX8_digestOfStrategies_133
    · have h := of_f h c1
      refine lv_aload_n hx hb dX8_digestOfStrategies_14 rfl (lv_at hl 0 rfl) ?_
      refine gf_X8_73 hC hb hP dX8_digestOfStrategies_15 ?_
      refine lv_iload hx hb dX8_digestOfStrategies_18 (lv_at hl 2 rfl) ?_
      obtain ⟨g2, h⟩ := of_gd h
      obtain ⟨g3, h⟩ := of_gd h
      refine x_aald hC hb hP lc_10 g2 dX8_digestOfStrategies_20 (fun d4 ed4 => ?_)
      have h := of_lt h ed4
      have hd4 : d4 < 13 := by rw [ed4]; exact Nat.lt_of_not_le g3
      refine lv_astore (lv' := [(6, .ref (E (41 + 5 * d4))), (0, .ref (E 0)), (3, .long v3), (5, .int v5)]) hx hb dX8_digestOfStrategies_21 hl (by decide) rfl (fun ls hl => ?_)
      refine lv_lload_n hx hb dX8_digestOfStrategies_23 rfl (lv_at hl 2 rfl) ?_
      refine lv_ldc2 (v := 31) hx hb hC.2.2.1 (hC.2.1 (Cond.constantLong RX8 263 31) (gw_t (tb4 (List.mem_of_getElem? (i := 62) rfl)) rfl)) dX8_digestOfStrategies_24 ?_
      refine lv_lmul hx hb dX8_digestOfStrategies_27 ?_
      refine lv_aload hx hb dX8_digestOfStrategies_28 (lv_at hl 0 rfl) ?_
      refine gf_X8_199 hC hb hP hd4 dX8_digestOfStrategies_30 ?_
      refine lv_i2l (v := (gI σ (64 * (41 + 5 * d4) + 1)).toInt64) hx hb dX8_digestOfStrategies_33 rfl ?_
      refine lv_ladd hx hb dX8_digestOfStrategies_34 ?_
      refine lv_topl (fun x5 ex5 => ?_)
      have h := of_lt h ex5
      refine lv_lstore_n (lv' := [(3, .long x5), (6, .ref (E (41 + 5 * d4))), (0, .ref (E 0)), (5, .int v5)]) hx hb dX8_digestOfStrategies_35 rfl hl (by decide) rfl (fun ls hl => ?_)
      refine lv_iconst (v := 0) hx hb dX8_digestOfStrategies_36 (by decide) ?_
      refine lv_istore (lv' := [(7, .int 0), (3, .long x5), (6, .ref (E (41 + 5 * d4))), (0, .ref (E 0)), (5, .int v5)]) hx hb dX8_digestOfStrategies_37 hl (by decide) rfl (fun ls hl => ?_)
      exact t_X8_digestOfStrategies_39  hF (f_X8_digestOfStrategies_5 n) ih FU x5 v5 d4 0 σ _ _ _ hd4 h hP hS (lv_sub hl [3, 1, 4, 2, 0] rfl)

def f_X8_digestOfStrategies (a1 : Int64) (σ : Sta) : Option (Int64 × Sta) :=
  f_X8_digestOfStrategies_5 FU a1 0 σ
set_option maxHeartbeats 4000000 in
set_option maxRecDepth 100000 in
theorem c_X8_digestOfStrategies {l : Launch} {D : va_G} {Y : CYs} {E : Nat → Nat} {a1 : Int64} {σ : Sta} {o : Int64 × Sta} (h : f_X8_digestOfStrategies a1 σ = some o) : ML l yX8_digestOfStrategies (Cond.code yX8_digestOfStrategies cX8_digestOfStrategies 8 (some .long) :: gW) rm_X8_digestOfStrategies LC Y D E [.ref (E 0), .long a1] σ o := by
  intro sz
  refine Met_of (Qc := fun sz => QL LC Y D E sz o) (by decide) (Nat.le_of_ble_eq_true rfl) (fun p e s m args below meth c hF hP ls hl => ?_) sz
  have hS : va_S (AF E LC.length s.heap.size) s.heap s.heap [] := va_S.rf
  have hl : lv_has ls 8 [(0, .ref (E 0)), (1, .long a1)] := hl
  show WL p l e rm_X8_digestOfStrategies s m args below meth c LC Y D E o s.heap [] (F0 m 0 ls [])
  unfold f_X8_digestOfStrategies at h
  obtain ⟨hC, hb, hml, hr, hlk, hD, hSW⟩ := id hF
  have hx := hC.1
  refine lv_lload_n hx hb dX8_digestOfStrategies_0 rfl (lv_at hl 1 rfl) ?_
  refine lv_lstore_n (lv' := [(3, .long a1), (0, .ref (E 0)), (1, .long a1)]) hx hb dX8_digestOfStrategies_1 rfl hl (by decide) rfl (fun ls hl => ?_)
  refine lv_iconst (v := 0) hx hb dX8_digestOfStrategies_2 (by decide) ?_
  refine lv_istore (lv' := [(5, .int 0), (3, .long a1), (0, .ref (E 0)), (1, .long a1)]) hx hb dX8_digestOfStrategies_3 hl (by decide) rfl (fun ls hl => ?_)
  exact t_X8_digestOfStrategies_5  hF FU a1 0 σ _ _ _ h hP hS (lv_sub hl [2, 1, 0] rfl)

abbrev rm_X8_digest : Room := { frames := 3, cells := 0, slots := 0, locals := 70 }
def f_X8_digest_104 : Nat → Int64 → Int32 → Sta → Option (Int64 × Sta)
  | 0, _, _, _ => none
  | n + 1, v1, v3, σ => if gI σ 197 ≤ v3 then
      bnd (f_X5_addToDigest v1 σ) (fun r2 σ3 =>
      bnd (f_X8_digestOfStrategies r2 σ3) (fun r5 σ6 =>
      some (r5, σ6)))
    else
      if v3 < 0 ∨ 3 ≤ (v3.toNatClampNeg) then none else (
      lt ((v1 * 31) + ((gA σ 9 (v3.toNatClampNeg)).toInt64)) (fun x9 =>
      lt (v3 + 1) (fun x10 =>
      f_X8_digest_104 n x9 x10 σ)))
set_option maxHeartbeats 4000000 in
set_option maxRecDepth 100000 in
theorem t_X8_digest_104 {l : Launch} {D : va_G} {Y : CYs} {E : Nat → Nat} {p : Program} {e : Env} {s : State} {m : MethodId} {args : Array Value} {below : List Frame} {meth : Method} {c : Code} (hF : Fr p s m args meth c RX8 cX8_digest 4 (some .long) D Y E LC) {o : Int64 × Sta} : ∀ (n : Nat) (v1 : Int64) (v3 : Int32) (σ : Sta) (H : Heap) (locs : List Loc) (ls : Array Slot), f_X8_digest_104 n v1 v3 σ = some o → va_P D vwCl (wd Y E σ 0 LC) H → va_S (AF E LC.length s.heap.size) s.heap H locs → lv_has ls 4 [(0, .ref (E 0)), (1, .long v1), (3, .int v3)] → WL p l e rm_X8_digest s m args below meth c LC Y D E o H locs (F0 m 104 ls []) := by
  intro n
  induction n with
  | zero =>
    intro v1 v3 σ H locs ls h hP hS hl
    exact nomatch (show (none : Option (Int64 × Sta)) = some o from h)
  | succ n ih =>
    intro v1 v3 σ H locs ls h hP hS hl
    rw [f_X8_digest_104] at h
    obtain ⟨hC, hb, hml, hr, hlk, hD, hSW⟩ := id hF
    have hx := hC.1
    refine lv_iload_n hx hb dX8_digest_104 rfl (lv_at hl 2 rfl) ?_
    refine lv_aload_n hx hb dX8_digest_105 rfl (lv_at hl 0 rfl) ?_
    refine gf_X8_30 hC hb hP dX8_digest_106 ?_
    refine gf_X8_123 hC hb hP dX8_digest_109 ?_
    refine lv_icmp_ge (tgt := 135) hx hb dX8_digest_112 (by decide) (fun c1 => ?_) (fun c1 => ?_)
    · have h := of_t h c1
      refine lv_aload_n hx hb dX8_digest_135 rfl (lv_at hl 0 rfl) ?_
      refine lv_aload_n hx hb dX8_digest_136 rfl (lv_at hl 0 rfl) ?_
      refine gf_X8_48 hC hb hP dX8_digest_137 ?_
      refine lv_lload_n hx hb dX8_digest_140 rfl (lv_at hl 1 rfl) ?_
      obtain ⟨r2, σ3, g4, h⟩ := of_bnd h
      refine x_VL (As := [.long v1]) (rest := [.ref (E 0)]) hF hl hP hS (c_X5_addToDigest g4) (cw_X8_265 hC rfl rfl ⟨Nat.le_of_ble_eq_true rfl, Nat.le_of_ble_eq_true rfl⟩) lc_5 rfl rfl rfl (Nat.le_of_ble_eq_true rfl) dX8_digest_141 ⟨Nat.zero_le _, Nat.zero_le _⟩ (fun H locs hP hS => ?_)
      obtain ⟨r5, σ6, g7, h⟩ := of_bnd h
      refine x_VL (As := [.long r2]) (rest := []) hF hl hP hS (c_X8_digestOfStrategies g7) (cw_X8_269 hC rfl rfl ⟨Nat.le_of_ble_eq_true rfl, Nat.le_of_ble_eq_true rfl⟩) lc_0 rfl rfl rfl (Nat.le_of_ble_eq_true rfl) dX8_digest_144 ⟨Nat.zero_le _, Nat.zero_le _⟩ (fun H locs hP hS => ?_)
      exact x_lret hF hP hS h dX8_digest_147
    · have h := of_f h c1
      refine lv_lload_n hx hb dX8_digest_115 rfl (lv_at hl 1 rfl) ?_
      refine lv_ldc2 (v := 31) hx hb hC.2.2.1 (hC.2.1 (Cond.constantLong RX8 263 31) (gw_t (tb4 (List.mem_of_getElem? (i := 62) rfl)) rfl)) dX8_digest_116 ?_
      refine lv_lmul hx hb dX8_digest_119 ?_
      refine lv_aload_n hx hb dX8_digest_120 rfl (lv_at hl 0 rfl) ?_
      refine gf_X8_68 hC hb hP dX8_digest_121 ?_
      refine lv_iload_n hx hb dX8_digest_124 rfl (lv_at hl 2 rfl) ?_
      obtain ⟨g8, h⟩ := of_gd h
      refine x_iald hC hb hP lc_9 g8 dX8_digest_125 ?_
      refine lv_i2l (v := (gA σ 9 (v3.toNatClampNeg)).toInt64) hx hb dX8_digest_126 rfl ?_
      refine lv_ladd hx hb dX8_digest_127 ?_
      refine lv_topl (fun x9 ex9 => ?_)
      have h := of_lt h ex9
      refine lv_lstore_n (lv' := [(1, .long x9), (0, .ref (E 0)), (3, .int v3)]) hx hb dX8_digest_128 rfl hl (by decide) rfl (fun ls hl => ?_)
      obtain ⟨x10, ex10⟩ : ∃ y : Int32, y = v3 + 1 := ⟨_, rfl⟩
      have h := of_lt h ex10
      refine lv_iinc (v := x10) (lv' := [(3, .int x10), (1, .long x9), (0, .ref (E 0))]) hx hb dX8_digest_129 hl (k := 2) rfl (by rw [ex10]; rfl) (by decide) rfl (fun ls hl => ?_)
      refine lv_goto (tgt := 104) hx hb dX8_digest_132 (by decide) ?_
      exact ih x9 x10 σ _ _ _ h hP hS (lv_sub hl [2, 1, 0] rfl)

def f_X8_digest (σ : Sta) : Option (Int64 × Sta) :=
  lt ((331 * 31) + ((gI σ 192).toInt64)) (fun x1 =>
  lt ((x1 * 31) + ((gI σ 197).toInt64)) (fun x2 =>
  lt ((x2 * 31) + ((gI σ 202).toInt64)) (fun x3 =>
  lt ((x3 * 31) + ((gI σ 322).toInt64)) (fun x4 =>
  lt ((x4 * 31) + ((gI σ 11).toInt64)) (fun x5 =>
  lt ((x5 * 31) + ((gI σ 1).toInt64)) (fun x6 =>
  lt ((x6 * 31) + (gL σ 449)) (fun x7 =>
  f_X8_digest_104 FU x7 0 σ)))))))
set_option maxHeartbeats 4000000 in
set_option maxRecDepth 100000 in
theorem c_X8_digest {l : Launch} {D : va_G} {Y : CYs} {E : Nat → Nat} {σ : Sta} {o : Int64 × Sta} (h : f_X8_digest σ = some o) : ML l yX8_digest (Cond.code yX8_digest cX8_digest 4 (some .long) :: gW) rm_X8_digest LC Y D E [.ref (E 0)] σ o := by
  intro sz
  refine Met_of (Qc := fun sz => QL LC Y D E sz o) (by decide) (Nat.le_of_ble_eq_true rfl) (fun p e s m args below meth c hF hP ls hl => ?_) sz
  have hS : va_S (AF E LC.length s.heap.size) s.heap s.heap [] := va_S.rf
  have hl : lv_has ls 4 [(0, .ref (E 0))] := hl
  show WL p l e rm_X8_digest s m args below meth c LC Y D E o s.heap [] (F0 m 0 ls [])
  unfold f_X8_digest at h
  obtain ⟨hC, hb, hml, hr, hlk, hD, hSW⟩ := id hF
  have hx := hC.1
  refine lv_ldc2 (v := 331) hx hb hC.2.2.1 (hC.2.1 (Cond.constantLong RX8 261 331) (gw_t (tb4 (List.mem_of_getElem? (i := 61) rfl)) rfl)) dX8_digest_0 ?_
  refine lv_lstore_n (lv' := [(1, .long 331), (0, .ref (E 0))]) hx hb dX8_digest_3 rfl hl (by decide) rfl (fun ls hl => ?_)
  refine lv_lload_n hx hb dX8_digest_4 rfl (lv_at hl 0 rfl) ?_
  refine lv_ldc2 (v := 31) hx hb hC.2.2.1 (hC.2.1 (Cond.constantLong RX8 263 31) (gw_t (tb4 (List.mem_of_getElem? (i := 62) rfl)) rfl)) dX8_digest_5 ?_
  refine lv_lmul hx hb dX8_digest_8 ?_
  refine lv_aload_n hx hb dX8_digest_9 rfl (lv_at hl 1 rfl) ?_
  refine gf_X8_30 hC hb hP dX8_digest_10 ?_
  refine gf_X8_120 hC hb hP dX8_digest_13 ?_
  refine lv_i2l (v := (gI σ 192).toInt64) hx hb dX8_digest_16 rfl ?_
  refine lv_ladd hx hb dX8_digest_17 ?_
  refine lv_topl (fun x1 ex1 => ?_)
  have h := of_lt h ex1
  refine lv_lstore_n (lv' := [(1, .long x1), (0, .ref (E 0))]) hx hb dX8_digest_18 rfl hl (by decide) rfl (fun ls hl => ?_)
  refine lv_lload_n hx hb dX8_digest_19 rfl (lv_at hl 0 rfl) ?_
  refine lv_ldc2 (v := 31) hx hb hC.2.2.1 (hC.2.1 (Cond.constantLong RX8 263 31) (gw_t (tb4 (List.mem_of_getElem? (i := 62) rfl)) rfl)) dX8_digest_20 ?_
  refine lv_lmul hx hb dX8_digest_23 ?_
  refine lv_aload_n hx hb dX8_digest_24 rfl (lv_at hl 1 rfl) ?_
  refine gf_X8_30 hC hb hP dX8_digest_25 ?_
  refine gf_X8_123 hC hb hP dX8_digest_28 ?_
  refine lv_i2l (v := (gI σ 197).toInt64) hx hb dX8_digest_31 rfl ?_
  refine lv_ladd hx hb dX8_digest_32 ?_
  refine lv_topl (fun x2 ex2 => ?_)
  have h := of_lt h ex2
  refine lv_lstore_n (lv' := [(1, .long x2), (0, .ref (E 0))]) hx hb dX8_digest_33 rfl hl (by decide) rfl (fun ls hl => ?_)
  refine lv_lload_n hx hb dX8_digest_34 rfl (lv_at hl 0 rfl) ?_
  refine lv_ldc2 (v := 31) hx hb hC.2.2.1 (hC.2.1 (Cond.constantLong RX8 263 31) (gw_t (tb4 (List.mem_of_getElem? (i := 62) rfl)) rfl)) dX8_digest_35 ?_
  refine lv_lmul hx hb dX8_digest_38 ?_
  refine lv_aload_n hx hb dX8_digest_39 rfl (lv_at hl 1 rfl) ?_
  refine gf_X8_30 hC hb hP dX8_digest_40 ?_
  refine gf_X8_126 hC hb hP dX8_digest_43 ?_
  refine lv_i2l (v := (gI σ 202).toInt64) hx hb dX8_digest_46 rfl ?_
  refine lv_ladd hx hb dX8_digest_47 ?_
  refine lv_topl (fun x3 ex3 => ?_)
  have h := of_lt h ex3
  refine lv_lstore_n (lv' := [(1, .long x3), (0, .ref (E 0))]) hx hb dX8_digest_48 rfl hl (by decide) rfl (fun ls hl => ?_)
  refine lv_lload_n hx hb dX8_digest_49 rfl (lv_at hl 0 rfl) ?_
  refine lv_ldc2 (v := 31) hx hb hC.2.2.1 (hC.2.1 (Cond.constantLong RX8 263 31) (gw_t (tb4 (List.mem_of_getElem? (i := 62) rfl)) rfl)) dX8_digest_50 ?_
  refine lv_lmul hx hb dX8_digest_53 ?_
  refine lv_aload_n hx hb dX8_digest_54 rfl (lv_at hl 1 rfl) ?_
  refine gf_X8_48 hC hb hP dX8_digest_55 ?_
  refine gf_X8_129 hC hb hP dX8_digest_58 ?_
  refine lv_i2l (v := (gI σ 322).toInt64) hx hb dX8_digest_61 rfl ?_
  refine lv_ladd hx hb dX8_digest_62 ?_
  refine lv_topl (fun x4 ex4 => ?_)
  have h := of_lt h ex4
  refine lv_lstore_n (lv' := [(1, .long x4), (0, .ref (E 0))]) hx hb dX8_digest_63 rfl hl (by decide) rfl (fun ls hl => ?_)
  refine lv_lload_n hx hb dX8_digest_64 rfl (lv_at hl 0 rfl) ?_
  refine lv_ldc2 (v := 31) hx hb hC.2.2.1 (hC.2.1 (Cond.constantLong RX8 263 31) (gw_t (tb4 (List.mem_of_getElem? (i := 62) rfl)) rfl)) dX8_digest_65 ?_
  refine lv_lmul hx hb dX8_digest_68 ?_
  refine lv_aload_n hx hb dX8_digest_69 rfl (lv_at hl 1 rfl) ?_
  refine gf_X8_132 hC hb hP dX8_digest_70 ?_
  refine lv_i2l (v := (gI σ 11).toInt64) hx hb dX8_digest_73 rfl ?_
  refine lv_ladd hx hb dX8_digest_74 ?_
  refine lv_topl (fun x5 ex5 => ?_)
  have h := of_lt h ex5
  refine lv_lstore_n (lv' := [(1, .long x5), (0, .ref (E 0))]) hx hb dX8_digest_75 rfl hl (by decide) rfl (fun ls hl => ?_)
  refine lv_lload_n hx hb dX8_digest_76 rfl (lv_at hl 0 rfl) ?_
  refine lv_ldc2 (v := 31) hx hb hC.2.2.1 (hC.2.1 (Cond.constantLong RX8 263 31) (gw_t (tb4 (List.mem_of_getElem? (i := 62) rfl)) rfl)) dX8_digest_77 ?_
  refine lv_lmul hx hb dX8_digest_80 ?_
  refine lv_aload_n hx hb dX8_digest_81 rfl (lv_at hl 1 rfl) ?_
  refine gf_X8_82 hC hb hP dX8_digest_82 ?_
  refine lv_i2l (v := (gI σ 1).toInt64) hx hb dX8_digest_85 rfl ?_
  refine lv_ladd hx hb dX8_digest_86 ?_
  refine lv_topl (fun x6 ex6 => ?_)
  have h := of_lt h ex6
  refine lv_lstore_n (lv' := [(1, .long x6), (0, .ref (E 0))]) hx hb dX8_digest_87 rfl hl (by decide) rfl (fun ls hl => ?_)
  refine lv_lload_n hx hb dX8_digest_88 rfl (lv_at hl 0 rfl) ?_
  refine lv_ldc2 (v := 31) hx hb hC.2.2.1 (hC.2.1 (Cond.constantLong RX8 263 31) (gw_t (tb4 (List.mem_of_getElem? (i := 62) rfl)) rfl)) dX8_digest_89 ?_
  refine lv_lmul hx hb dX8_digest_92 ?_
  refine lv_aload_n hx hb dX8_digest_93 rfl (lv_at hl 1 rfl) ?_
  refine gf_X8_64 hC hb hP dX8_digest_94 ?_
  refine gf_X8_250 hC hb hP dX8_digest_97 ?_
  refine lv_ladd hx hb dX8_digest_100 ?_
  refine lv_topl (fun x7 ex7 => ?_)
  have h := of_lt h ex7
  refine lv_lstore_n (lv' := [(1, .long x7), (0, .ref (E 0))]) hx hb dX8_digest_101 rfl hl (by decide) rfl (fun ls hl => ?_)
  refine lv_iconst (v := 0) hx hb dX8_digest_102 (by decide) ?_
  refine lv_istore_n (lv' := [(3, .int 0), (1, .long x7), (0, .ref (E 0))]) hx hb dX8_digest_103 rfl hl (by decide) rfl (fun ls hl => ?_)
  exact t_X8_digest_104  hF FU x7 0 σ _ _ _ h hP hS (lv_sub hl [2, 1, 0] rfl)
