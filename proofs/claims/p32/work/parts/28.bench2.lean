theorem cw_X8_178 {R : Room} {p : Program} {s : State} {m : MethodId} {args : Array Value} {D : va_G} {Y : CYs} {rm : Room} (hC : Ctx p s m args RX8 D Y) (hrc : rm.cells = 0) (hrs : rm.slots = 0) (hR : rm.frames + 1 ≤ R.frames ∧ 8 + (2 + 11) + rm.locals ≤ R.locals) : CallW R s args RX8 RX8 178 yX8_checkGain cX8_checkGain 2 none (Cond.code yX8_checkGain cX8_checkGain 2 none :: gW) rm 0 0 1 :=
  cwV 1 hC.2.1 (gi_V (gw_t (tb2 (List.mem_of_getElem? (i := 229) rfl)) rfl) (gw_t (tb2 (List.mem_of_getElem? (i := 231) rfl)) rfl) (gw_s (q := (⟨"MarkovBench", "checkGain", "(I)V"⟩, 14)) (lp1_ (List.mem_of_getElem? (i := 4) rfl))) (gw_t (tb1 (List.mem_of_getElem? (i := 1) rfl)) rfl) (gw_t (tb2 (List.mem_of_getElem? (i := 232) rfl)) rfl)) rfl hrc hrs ⟨rfl, by decide +kernel, by decide +kernel, by decide +kernel⟩ hR
theorem cw_X8_181 {R : Room} {p : Program} {s : State} {m : MethodId} {args : Array Value} {D : va_G} {Y : CYs} {rm : Room} (hC : Ctx p s m args RX8 D Y) (hrc : rm.cells = 0) (hrs : rm.slots = 0) (hR : rm.frames + 1 ≤ R.frames ∧ 8 + (5 + 11) + rm.locals ≤ R.locals) : CallW R s args RX8 RX5 181 yX5_gainOf cX5_gainOf 5 (some .long) (Cond.code yX5_gainOf cX5_gainOf 5 (some .long) :: gW) rm 0 0 3 :=
  cwV 3 hC.2.1 (gi_V (gw_t (tb2 (List.mem_of_getElem? (i := 233) rfl)) rfl) (gw_t (tb2 (List.mem_of_getElem? (i := 234) rfl)) rfl) (gw_t (tb2 (List.mem_of_getElem? (i := 235) rfl)) rfl) (gw_t (tb1 (List.mem_of_getElem? (i := 6) rfl)) rfl) (gw_t (tb2 (List.mem_of_getElem? (i := 236) rfl)) rfl)) rfl hrc hrs ⟨rfl, by decide +kernel, by decide +kernel, by decide +kernel⟩ hR
theorem cw_X8_189 {R : Room} {p : Program} {s : State} {m : MethodId} {args : Array Value} {D : va_G} {Y : CYs} {rm : Room} (hC : Ctx p s m args RX8 D Y) (hrc : rm.cells = 0) (hrs : rm.slots = 0) (hR : rm.frames + 1 ≤ R.frames ∧ 8 + (4 + 11) + rm.locals ≤ R.locals) : CallW R s args RX8 RX5 189 yX5_targetOf cX5_targetOf 4 (some .int) (Cond.code yX5_targetOf cX5_targetOf 4 (some .int) :: gW) rm 0 0 3 :=
  cwV 3 hC.2.1 (gi_V (gw_t (tb3 (List.mem_of_getElem? (i := 8) rfl)) rfl) (gw_t (tb3 (List.mem_of_getElem? (i := 9) rfl)) rfl) (gw_t (tb3 (List.mem_of_getElem? (i := 10) rfl)) rfl) (gw_t (tb1 (List.mem_of_getElem? (i := 6) rfl)) rfl) (gw_t (tb3 (List.mem_of_getElem? (i := 11) rfl)) rfl)) rfl hrc hrs ⟨rfl, by decide +kernel, by decide +kernel, by decide +kernel⟩ hR
theorem cw_X8_185 {R : Room} {p : Program} {s : State} {m : MethodId} {args : Array Value} {D : va_G} {Y : CYs} {rm : Room} (hC : Ctx p s m args RX8 D Y) (hrc : rm.cells = 0) (hrs : rm.slots = 0) (hR : rm.frames + 1 ≤ R.frames ∧ 8 + (4 + 11) + rm.locals ≤ R.locals) : CallW R s args RX8 RX5 185 yX5_chanceOf cX5_chanceOf 4 (some .int) (Cond.code yX5_chanceOf cX5_chanceOf 4 (some .int) :: gW) rm 0 0 3 :=
  cwV 3 hC.2.1 (gi_V (gw_t (tb3 (List.mem_of_getElem? (i := 4) rfl)) rfl) (gw_t (tb3 (List.mem_of_getElem? (i := 5) rfl)) rfl) (gw_t (tb3 (List.mem_of_getElem? (i := 6) rfl)) rfl) (gw_t (tb1 (List.mem_of_getElem? (i := 6) rfl)) rfl) (gw_t (tb3 (List.mem_of_getElem? (i := 7) rfl)) rfl)) rfl hrc hrs ⟨rfl, by decide +kernel, by decide +kernel, by decide +kernel⟩ hR
theorem pf_X8_199 {p : Program} {l : Launch} {e : Env} {R : Room} {s : State} {m : MethodId} {args : Array Value} {below : List Frame} {meth : Method} {c : Code} {H : Heap} {locs : List Loc} {cells slots : Nat} {Q : State → Prop} {D : va_G} {Y : CYs} {E : Nat → Nat} {σ : Sta} {cc : ByteArray} {pc : Nat} {ls : Array Slot} {rest : List Value} {A : Nat → Prop} {H0 : Heap} {x : Int32} (hC : Ctx p s m args RX8 D Y) (hb : c.code = cc) (hP : va_P D vwCl (wd Y E σ 0 LC) H) (hD : ∀ τ, va_D A (wd Y E τ 0 LC)) (hS : va_S A H0 H locs) {d : Nat} (hd : d < 13) (hdg : decode cc pc = .ok (.putfield 199, 3)) (kk : ∀ (H1 : Heap) (locs1 : List Loc) (τ : Sta), τ = sI σ (64 * (41 + 5 * d) + 1) x → va_P D vwCl (wd Y E τ 0 LC) H1 → va_S A H0 H1 locs1 → W p l e R s m args below meth c H1 locs1 cells slots Q (F0 m (pc + 3) ls rest)) : W p l e R s m args below meth c H locs cells slots Q (F0 m pc ls (.int x :: .ref (E (41 + 5 * d)) :: rest)) :=
  x_putIN lokC hC hb hP hD hS inGX6 tyX6 tyX6_ok nmX6 (lc_s0 hd) rfl 1 (by decide) rfl (List.mem_of_getElem? (i := 40) rfl) rfl rfl rfl rfl rfl hdg kk
theorem gf_X8_57 {p : Program} {l : Launch} {e : Env} {R : Room} {s : State} {m : MethodId} {args : Array Value} {below : List Frame} {meth : Method} {c : Code} {H : Heap} {locs : List Loc} {cells slots : Nat} {Q : State → Prop} {D : va_G} {Y : CYs} {E : Nat → Nat} {σ : Sta} {cc : ByteArray} {pc : Nat} {ls : Array Slot} {rest : List Value} (hC : Ctx p s m args RX8 D Y) (hb : c.code = cc) (hP : va_P D vwCl (wd Y E σ 0 LC) H) (hdg : decode cc pc = .ok (.getfield 57, 3)) (kk : W p l e R s m args below meth c H locs cells slots Q (F0 m (pc + 3) ls (.ref (E 6) :: rest))) : W p l e R s m args below meth c H locs cells slots Q (F0 m pc ls (.ref (E 0) :: rest)) :=
  x_getR hC hb hP inGX8 lc_0 rfl 7 (by decide) rfl (gw_t (tb2 (List.mem_of_getElem? (i := 85) rfl)) rfl) rfl hdg kk
theorem cw_X8_202 {R : Room} {p : Program} {s : State} {m : MethodId} {args : Array Value} {D : va_G} {Y : CYs} {rm : Room} (hC : Ctx p s m args RX8 D Y) (hrc : rm.cells = 0) (hrs : rm.slots = 0) (hR : rm.frames + 1 ≤ R.frames ∧ 8 + (4 + 11) + rm.locals ≤ R.locals) : CallW R s args RX8 RX2 202 yX2_plan cX2_plan 4 none (Cond.code yX2_plan cX2_plan 4 none :: gW) rm 0 0 1 :=
  cwV 1 hC.2.1 (gi_V (gw_t (tb3 (List.mem_of_getElem? (i := 65) rfl)) rfl) (gw_t (tb3 (List.mem_of_getElem? (i := 66) rfl)) rfl) (gw_t (tb3 (List.mem_of_getElem? (i := 67) rfl)) rfl) (gw_t (tb1 (List.mem_of_getElem? (i := 7) rfl)) rfl) (gw_t (tb3 (List.mem_of_getElem? (i := 68) rfl)) rfl)) rfl hrc hrs ⟨rfl, by decide +kernel, by decide +kernel, by decide +kernel⟩ hR
theorem gf_X8_198 {p : Program} {l : Launch} {e : Env} {R : Room} {s : State} {m : MethodId} {args : Array Value} {below : List Frame} {meth : Method} {c : Code} {H : Heap} {locs : List Loc} {cells slots : Nat} {Q : State → Prop} {D : va_G} {Y : CYs} {E : Nat → Nat} {σ : Sta} {cc : ByteArray} {pc : Nat} {ls : Array Slot} {rest : List Value} (hC : Ctx p s m args RX8 D Y) (hb : c.code = cc) (hP : va_P D vwCl (wd Y E σ 0 LC) H) {d : Nat} (hd : d < 13) (hdg : decode cc pc = .ok (.getfield 198, 3)) (kk : W p l e R s m args below meth c H locs cells slots Q (F0 m (pc + 3) ls (.ref (E (41 + 5 * d + 1)) :: rest))) : W p l e R s m args below meth c H locs cells slots Q (F0 m pc ls (.ref (E (41 + 5 * d)) :: rest)) :=
  x_getRN hC hb hP inGX6 (lc_s0 hd) rfl 0 (by decide) rfl (List.mem_of_getElem? (i := 38) rfl) rfl hdg kk
theorem cw_X8_192 {R : Room} {p : Program} {s : State} {m : MethodId} {args : Array Value} {D : va_G} {Y : CYs} {rm : Room} (hC : Ctx p s m args RX8 D Y) (hrc : rm.cells = 0) (hrs : rm.slots = 0) (hR : rm.frames + 1 ≤ R.frames ∧ 8 + (1 + 11) + rm.locals ≤ R.locals) : CallW R s args RX8 RX8 192 yX8_checkProgram cX8_checkProgram 1 none (Cond.code yX8_checkProgram cX8_checkProgram 1 none :: gW) rm 0 0 0 :=
  cwV 0 hC.2.1 (gi_V (gw_t (tb3 (List.mem_of_getElem? (i := 40) rfl)) rfl) (gw_t (tb3 (List.mem_of_getElem? (i := 42) rfl)) rfl) (gw_s (q := (⟨"MarkovBench", "checkProgram", "()V"⟩, 14)) (lp1_ (List.mem_of_getElem? (i := 6) rfl))) (gw_t (tb1 (List.mem_of_getElem? (i := 1) rfl)) rfl) (gw_t (tb3 (List.mem_of_getElem? (i := 43) rfl)) rfl)) rfl hrc hrs ⟨rfl, by decide +kernel, by decide +kernel, by decide +kernel⟩ hR
theorem cw_X8_195 {R : Room} {p : Program} {s : State} {m : MethodId} {args : Array Value} {D : va_G} {Y : CYs} {rm : Room} (hC : Ctx p s m args RX8 D Y) (hrc : rm.cells = 0) (hrs : rm.slots = 0) (hR : rm.frames + 1 ≤ R.frames ∧ 8 + (2 + 11) + rm.locals ≤ R.locals) : CallW R s args RX8 RX8 195 yX8_checkRoom cX8_checkRoom 2 none (Cond.code yX8_checkRoom cX8_checkRoom 2 none :: gW) rm 0 0 1 :=
  cwV 1 hC.2.1 (gi_V (gw_t (tb3 (List.mem_of_getElem? (i := 60) rfl)) rfl) (gw_t (tb3 (List.mem_of_getElem? (i := 62) rfl)) rfl) (gw_s (q := (⟨"MarkovBench", "checkRoom", "(I)V"⟩, 14)) (lp1_ (List.mem_of_getElem? (i := 7) rfl))) (gw_t (tb1 (List.mem_of_getElem? (i := 1) rfl)) rfl) (gw_t (tb3 (List.mem_of_getElem? (i := 63) rfl)) rfl)) rfl hrc hrs ⟨rfl, by decide +kernel, by decide +kernel, by decide +kernel⟩ hR
theorem gf_X8_73 {p : Program} {l : Launch} {e : Env} {R : Room} {s : State} {m : MethodId} {args : Array Value} {below : List Frame} {meth : Method} {c : Code} {H : Heap} {locs : List Loc} {cells slots : Nat} {Q : State → Prop} {D : va_G} {Y : CYs} {E : Nat → Nat} {σ : Sta} {cc : ByteArray} {pc : Nat} {ls : Array Slot} {rest : List Value} (hC : Ctx p s m args RX8 D Y) (hb : c.code = cc) (hP : va_P D vwCl (wd Y E σ 0 LC) H) (hdg : decode cc pc = .ok (.getfield 73, 3)) (kk : W p l e R s m args below meth c H locs cells slots Q (F0 m (pc + 3) ls (.ref (E 10) :: rest))) : W p l e R s m args below meth c H locs cells slots Q (F0 m pc ls (.ref (E 0) :: rest)) :=
  x_getR hC hb hP inGX8 lc_0 rfl 10 (by decide) rfl (gw_t (tb2 (List.mem_of_getElem? (i := 88) rfl)) rfl) rfl hdg kk
theorem cw_X8_206 {R : Room} {p : Program} {s : State} {m : MethodId} {args : Array Value} {D : va_G} {Y : CYs} {rm : Room} (hC : Ctx p s m args RX8 D Y) (hrc : rm.cells = 0) (hrs : rm.slots = 0) (hR : rm.frames + 1 ≤ R.frames ∧ 8 + (2 + 11) + rm.locals ≤ R.locals) : CallW R s args RX8 RX8 206 yX8_checkStrategy cX8_checkStrategy 2 none (Cond.code yX8_checkStrategy cX8_checkStrategy 2 none :: gW) rm 0 0 1 :=
  cwV 1 hC.2.1 (gi_V (gw_t (tb3 (List.mem_of_getElem? (i := 124) rfl)) rfl) (gw_t (tb3 (List.mem_of_getElem? (i := 126) rfl)) rfl) (gw_s (q := (⟨"MarkovBench", "checkStrategy", "(I)V"⟩, 14)) (lp1_ (List.mem_of_getElem? (i := 15) rfl))) (gw_t (tb1 (List.mem_of_getElem? (i := 1) rfl)) rfl) (gw_t (tb3 (List.mem_of_getElem? (i := 127) rfl)) rfl)) rfl hrc hrs ⟨rfl, by decide +kernel, by decide +kernel, by decide +kernel⟩ hR
theorem gf_X8_199 {p : Program} {l : Launch} {e : Env} {R : Room} {s : State} {m : MethodId} {args : Array Value} {below : List Frame} {meth : Method} {c : Code} {H : Heap} {locs : List Loc} {cells slots : Nat} {Q : State → Prop} {D : va_G} {Y : CYs} {E : Nat → Nat} {σ : Sta} {cc : ByteArray} {pc : Nat} {ls : Array Slot} {rest : List Value} (hC : Ctx p s m args RX8 D Y) (hb : c.code = cc) (hP : va_P D vwCl (wd Y E σ 0 LC) H) {d : Nat} (hd : d < 13) (hdg : decode cc pc = .ok (.getfield 199, 3)) (kk : W p l e R s m args below meth c H locs cells slots Q (F0 m (pc + 3) ls (.int (gI σ (64 * (41 + 5 * d) + 1)) :: rest))) : W p l e R s m args below meth c H locs cells slots Q (F0 m pc ls (.ref (E (41 + 5 * d)) :: rest)) :=
  x_getIN hC hb hP inGX6 (lc_s0 hd) rfl 1 (by decide) rfl (List.mem_of_getElem? (i := 40) rfl) rfl hdg kk
theorem cw_X8_209 {R : Room} {p : Program} {s : State} {m : MethodId} {args : Array Value} {D : va_G} {Y : CYs} {rm : Room} (hC : Ctx p s m args RX8 D Y) (hrc : rm.cells = 0) (hrs : rm.slots = 0) (hR : rm.frames + 1 ≤ R.frames ∧ 8 + (3 + 11) + rm.locals ≤ R.locals) : CallW R s args RX8 RX6 209 yX6_takenIn cX6_takenIn 3 (some .int) (Cond.code yX6_takenIn cX6_takenIn 3 (some .int) :: gW) rm 0 0 2 :=
  cwV 2 hC.2.1 (gi_V (gw_t (tb3 (List.mem_of_getElem? (i := 128) rfl)) rfl) (gw_t (tb3 (List.mem_of_getElem? (i := 96) rfl)) rfl) (gw_t (tb3 (List.mem_of_getElem? (i := 97) rfl)) rfl) (gw_t (tb1 (List.mem_of_getElem? (i := 9) rfl)) rfl) (gw_t (tb3 (List.mem_of_getElem? (i := 98) rfl)) rfl)) rfl hrc hrs ⟨rfl, by decide +kernel, by decide +kernel, by decide +kernel⟩ hR
theorem gf_X8_212 {p : Program} {l : Launch} {e : Env} {R : Room} {s : State} {m : MethodId} {args : Array Value} {below : List Frame} {meth : Method} {c : Code} {H : Heap} {locs : List Loc} {cells slots : Nat} {Q : State → Prop} {D : va_G} {Y : CYs} {E : Nat → Nat} {σ : Sta} {cc : ByteArray} {pc : Nat} {ls : Array Slot} {rest : List Value} (hC : Ctx p s m args RX8 D Y) (hb : c.code = cc) (hP : va_P D vwCl (wd Y E σ 0 LC) H) {d : Nat} (hd : d < 13) (hdg : decode cc pc = .ok (.getfield 212, 3)) (kk : W p l e R s m args below meth c H locs cells slots Q (F0 m (pc + 3) ls (.ref (E (41 + 5 * d + 3)) :: rest))) : W p l e R s m args below meth c H locs cells slots Q (F0 m pc ls (.ref (E (41 + 5 * d)) :: rest)) :=
  x_getRN hC hb hP inGX6 (lc_s0 hd) rfl 3 (by decide) rfl (List.mem_of_getElem? (i := 43) rfl) rfl hdg kk
theorem cw_X8_216 {R : Room} {p : Program} {s : State} {m : MethodId} {args : Array Value} {D : va_G} {Y : CYs} {rm : Room} (hC : Ctx p s m args RX8 D Y) (hrc : rm.cells = 0) (hrs : rm.slots = 0) (hR : rm.frames + 1 ≤ R.frames ∧ 8 + (2 + 11) + rm.locals ≤ R.locals) : CallB R s args RX8 216 yX8_entry_ cX8_entry_ 2 (some .long) (Cond.code yX8_entry_ cX8_entry_ 2 (some .long) :: gW) rm 0 0 2 ∧ (Cond.static yX8_entry_).before args s = true :=
  ⟨callB_of 2 hC.2.1 (gi_law (gw_t (tb2 (List.mem_of_getElem? (i := 239) rfl)) rfl)) rfl hrc hrs (hC.2.1 (Cond.initialized RX8) (gw_t (tb1 (List.mem_of_getElem? (i := 1) rfl)) rfl)) (hC.2.1 (Cond.methodLink RX8 216 yX8_entry_) (gw_t (tb3 (List.mem_of_getElem? (i := 133) rfl)) rfl)) ⟨by decide +kernel, by decide +kernel, by decide +kernel⟩ hR, hC.2.1 (Cond.static yX8_entry_) (gw_t (tb2 (List.mem_of_getElem? (i := 238) rfl)) rfl)⟩
theorem gf_X8_219 {p : Program} {l : Launch} {e : Env} {R : Room} {s : State} {m : MethodId} {args : Array Value} {below : List Frame} {meth : Method} {c : Code} {H : Heap} {locs : List Loc} {cells slots : Nat} {Q : State → Prop} {D : va_G} {Y : CYs} {E : Nat → Nat} {σ : Sta} {cc : ByteArray} {pc : Nat} {ls : Array Slot} {rest : List Value} (hC : Ctx p s m args RX8 D Y) (hb : c.code = cc) (hP : va_P D vwCl (wd Y E σ 0 LC) H) {d : Nat} (hd : d < 13) (hdg : decode cc pc = .ok (.getfield 219, 3)) (kk : W p l e R s m args below meth c H locs cells slots Q (F0 m (pc + 3) ls (.ref (E (41 + 5 * d + 4)) :: rest))) : W p l e R s m args below meth c H locs cells slots Q (F0 m pc ls (.ref (E (41 + 5 * d)) :: rest)) :=
  x_getRN hC hb hP inGX6 (lc_s0 hd) rfl 4 (by decide) rfl (List.mem_of_getElem? (i := 45) rfl) rfl hdg kk
theorem gf_X8_222 {p : Program} {l : Launch} {e : Env} {R : Room} {s : State} {m : MethodId} {args : Array Value} {below : List Frame} {meth : Method} {c : Code} {H : Heap} {locs : List Loc} {cells slots : Nat} {Q : State → Prop} {D : va_G} {Y : CYs} {E : Nat → Nat} {σ : Sta} {cc : ByteArray} {pc : Nat} {ls : Array Slot} {rest : List Value} (hC : Ctx p s m args RX8 D Y) (hb : c.code = cc) (hP : va_P D vwCl (wd Y E σ 0 LC) H) {d : Nat} (hd : d < 13) (hdg : decode cc pc = .ok (.getfield 222, 3)) (kk : W p l e R s m args below meth c H locs cells slots Q (F0 m (pc + 3) ls (.int (gI σ (64 * (41 + 5 * d) + 5)) :: rest))) : W p l e R s m args below meth c H locs cells slots Q (F0 m pc ls (.ref (E (41 + 5 * d)) :: rest)) :=
  x_getIN hC hb hP inGX6 (lc_s0 hd) rfl 5 (by decide) rfl (List.mem_of_getElem? (i := 47) rfl) rfl hdg kk
theorem cw_X8_225 {R : Room} {p : Program} {s : State} {m : MethodId} {args : Array Value} {D : va_G} {Y : CYs} {rm : Room} (hC : Ctx p s m args RX8 D Y) (hrc : rm.cells = 0) (hrs : rm.slots = 0) (hR : rm.frames + 1 ≤ R.frames ∧ 8 + (5 + 11) + rm.locals ≤ R.locals) : CallW R s args RX8 RX8 225 yX8_isBetter cX8_isBetter 5 (some .boolean) (Cond.code yX8_isBetter cX8_isBetter 5 (some .boolean) :: gW) rm 0 0 2 :=
  cwV 2 hC.2.1 (gi_V (gw_t (tb3 (List.mem_of_getElem? (i := 146) rfl)) rfl) (gw_t (tb3 (List.mem_of_getElem? (i := 148) rfl)) rfl) (gw_s (q := (⟨"MarkovBench", "isBetter", "(LMarkovBench$Strategy;LMarkovBench$Strategy;)Z"⟩, 14)) (lp2_ (List.mem_of_getElem? (i := 0) rfl))) (gw_t (tb1 (List.mem_of_getElem? (i := 1) rfl)) rfl) (gw_t (tb3 (List.mem_of_getElem? (i := 149) rfl)) rfl)) rfl hrc hrs ⟨rfl, by decide +kernel, by decide +kernel, by decide +kernel⟩ hR
theorem cw_X8_246 {R : Room} {p : Program} {s : State} {m : MethodId} {args : Array Value} {D : va_G} {Y : CYs} {rm : Room} (hC : Ctx p s m args RX8 D Y) (hrc : rm.cells = 0) (hrs : rm.slots = 0) (hR : rm.frames + 1 ≤ R.frames ∧ 8 + (5 + 11) + rm.locals ≤ R.locals) : CallW R s args RX8 RX2 246 yX2_extremeChance cX2_extremeChance 5 (some .int) (Cond.code yX2_extremeChance cX2_extremeChance 5 (some .int) :: gW) rm 0 0 2 :=
  cwV 2 hC.2.1 (gi_V (gw_t (tb3 (List.mem_of_getElem? (i := 154) rfl)) rfl) (gw_t (tb3 (List.mem_of_getElem? (i := 155) rfl)) rfl) (gw_t (tb3 (List.mem_of_getElem? (i := 156) rfl)) rfl) (gw_t (tb1 (List.mem_of_getElem? (i := 7) rfl)) rfl) (gw_t (tb3 (List.mem_of_getElem? (i := 157) rfl)) rfl)) rfl hrc hrs ⟨rfl, by decide +kernel, by decide +kernel, by decide +kernel⟩ hR
abbrev rm_X8_gain : Room := { frames := 3, cells := 0, slots := 0, locals := 67 }
def f_X8_gain (a1 : Int32) (a2 : Int32) (a3 : Int32) (σ : Sta) : Option (Int64 × Sta) :=
  bnd (f_X8_checkChoice a1 a2 σ) (fun _ σ2 =>
  bnd (f_X8_checkGain a3 σ2) (fun _ σ5 =>
  bnd (f_X5_gainOf a1 a2 a3 σ5) (fun r7 σ8 =>
  some (r7, σ8))))
set_option maxHeartbeats 4000000 in
set_option maxRecDepth 100000 in
theorem c_X8_gain {l : Launch} {D : va_G} {Y : CYs} {E : Nat → Nat} {a1 : Int32} {a2 : Int32} {a3 : Int32} {σ : Sta} {o : Int64 × Sta} (h : f_X8_gain a1 a2 a3 σ = some o) : ML l yX8_gain (Cond.code yX8_gain cX8_gain 4 (some .long) :: gW) rm_X8_gain LC Y D E [.ref (E 0), .int a1, .int a2, .int a3] σ o := by
  intro sz
  refine Met_of (Qc := fun sz => QL LC Y D E sz o) (by decide) (Nat.le_of_ble_eq_true rfl) (fun p e s m args below meth c hF hP ls hl => ?_) sz
  have hS : va_S (AF E LC.length s.heap.size) s.heap s.heap [] := va_S.rf
  have hl : lv_has ls 4 [(0, .ref (E 0)), (1, .int a1), (2, .int a2), (3, .int a3)] := hl
  show WL p l e rm_X8_gain s m args below meth c LC Y D E o s.heap [] (F0 m 0 ls [])
  unfold f_X8_gain at h
  obtain ⟨hC, hb, hml, hr, hlk, hD, hSW⟩ := id hF
  have hx := hC.1
  refine lv_aload_n hx hb dX8_gain_0 rfl (lv_at hl 0 rfl) ?_
  refine lv_iload_n hx hb dX8_gain_1 rfl (lv_at hl 1 rfl) ?_
  refine lv_iload_n hx hb dX8_gain_2 rfl (lv_at hl 2 rfl) ?_
  obtain ⟨r1, σ2, g3, h⟩ := of_bnd h
  refine x_VV (As := [.int a1, .int a2]) (rest := []) hF hl hP hS (c_X8_checkChoice g3) (cw_X8_168 hC rfl rfl ⟨Nat.le_of_ble_eq_true rfl, Nat.le_of_ble_eq_true rfl⟩) lc_0 rfl rfl rfl (Nat.le_of_ble_eq_true rfl) dX8_gain_3 ⟨Nat.zero_le _, Nat.zero_le _⟩ (fun H locs hP hS => ?_)
  refine lv_aload_n hx hb dX8_gain_6 rfl (lv_at hl 0 rfl) ?_
  refine lv_iload_n hx hb dX8_gain_7 rfl (lv_at hl 3 rfl) ?_
  obtain ⟨r4, σ5, g6, h⟩ := of_bnd h
  refine x_VV (As := [.int a3]) (rest := []) hF hl hP hS (c_X8_checkGain g6) (cw_X8_178 hC rfl rfl ⟨Nat.le_of_ble_eq_true rfl, Nat.le_of_ble_eq_true rfl⟩) lc_0 rfl rfl rfl (Nat.le_of_ble_eq_true rfl) dX8_gain_8 ⟨Nat.zero_le _, Nat.zero_le _⟩ (fun H locs hP hS => ?_)
  refine lv_aload_n hx hb dX8_gain_11 rfl (lv_at hl 0 rfl) ?_
  refine gf_X8_48 hC hb hP dX8_gain_12 ?_
  refine lv_iload_n hx hb dX8_gain_15 rfl (lv_at hl 1 rfl) ?_
  refine lv_iload_n hx hb dX8_gain_16 rfl (lv_at hl 2 rfl) ?_
  refine lv_iload_n hx hb dX8_gain_17 rfl (lv_at hl 3 rfl) ?_
  obtain ⟨r7, σ8, g9, h⟩ := of_bnd h
  refine x_VL (As := [.int a1, .int a2, .int a3]) (rest := []) hF hl hP hS (c_X5_gainOf g9) (cw_X8_181 hC rfl rfl ⟨Nat.le_of_ble_eq_true rfl, Nat.le_of_ble_eq_true rfl⟩) lc_5 rfl rfl rfl (Nat.le_of_ble_eq_true rfl) dX8_gain_18 ⟨Nat.zero_le _, Nat.zero_le _⟩ (fun H locs hP hS => ?_)
  exact x_lret hF hP hS h dX8_gain_21

abbrev rm_X8_branch : Room := { frames := 3, cells := 0, slots := 0, locals := 66 }
def f_X8_branch (a1 : Int32) (a2 : Int32) (a3 : Int32) (a4 : Int32) (σ : Sta) : Option (Int32 × Sta) :=
  bnd (f_X8_checkChoice a1 a2 σ) (fun _ σ2 =>
  bnd (f_X5_branchesOf a1 a2 σ2) (fun r4 σ5 =>
  bnd (f_X8_checkIndex a3 r4 σ5) (fun _ σ8 =>
  if a4 = 0 then
    bnd (f_X5_targetOf a1 a2 a3 σ8) (fun r11 σ12 =>
    some (r11, σ12))
  else
    bnd (f_X5_chanceOf a1 a2 a3 σ8) (fun r14 σ15 =>
    some (r14, σ15)))))
set_option maxHeartbeats 4000000 in
set_option maxRecDepth 100000 in
theorem c_X8_branch {l : Launch} {D : va_G} {Y : CYs} {E : Nat → Nat} {a1 : Int32} {a2 : Int32} {a3 : Int32} {a4 : Int32} {σ : Sta} {o : Int32 × Sta} (h : f_X8_branch a1 a2 a3 a4 σ = some o) : MI l yX8_branch (Cond.code yX8_branch cX8_branch 5 (some .int) :: gW) rm_X8_branch LC Y D E [.ref (E 0), .int a1, .int a2, .int a3, .int a4] σ o := by
  intro sz
  refine Met_of (Qc := fun sz => QI LC Y D E sz o) (by decide) (Nat.le_of_ble_eq_true rfl) (fun p e s m args below meth c hF hP ls hl => ?_) sz
  have hS : va_S (AF E LC.length s.heap.size) s.heap s.heap [] := va_S.rf
  have hl : lv_has ls 5 [(0, .ref (E 0)), (1, .int a1), (2, .int a2), (3, .int a3), (4, .int a4)] := hl
  show WI p l e rm_X8_branch s m args below meth c LC Y D E o s.heap [] (F0 m 0 ls [])
  unfold f_X8_branch at h
  obtain ⟨hC, hb, hml, hr, hlk, hD, hSW⟩ := id hF
  have hx := hC.1
  refine lv_aload_n hx hb dX8_branch_0 rfl (lv_at hl 0 rfl) ?_
  refine lv_iload_n hx hb dX8_branch_1 rfl (lv_at hl 1 rfl) ?_
  refine lv_iload_n hx hb dX8_branch_2 rfl (lv_at hl 2 rfl) ?_
  obtain ⟨r1, σ2, g3, h⟩ := of_bnd h
  refine x_VV (As := [.int a1, .int a2]) (rest := []) hF hl hP hS (c_X8_checkChoice g3) (cw_X8_168 hC rfl rfl ⟨Nat.le_of_ble_eq_true rfl, Nat.le_of_ble_eq_true rfl⟩) lc_0 rfl rfl rfl (Nat.le_of_ble_eq_true rfl) dX8_branch_3 ⟨Nat.zero_le _, Nat.zero_le _⟩ (fun H locs hP hS => ?_)
  refine lv_aload_n hx hb dX8_branch_6 rfl (lv_at hl 0 rfl) ?_
  refine lv_iload_n hx hb dX8_branch_7 rfl (lv_at hl 3 rfl) ?_
  refine lv_aload_n hx hb dX8_branch_8 rfl (lv_at hl 0 rfl) ?_
  refine gf_X8_48 hC hb hP dX8_branch_9 ?_
  refine lv_iload_n hx hb dX8_branch_12 rfl (lv_at hl 1 rfl) ?_
  refine lv_iload_n hx hb dX8_branch_13 rfl (lv_at hl 2 rfl) ?_
  obtain ⟨r4, σ5, g6, h⟩ := of_bnd h
  refine x_VI (As := [.int a1, .int a2]) (rest := [.int a3, .ref (E 0)]) hF hl hP hS (c_X5_branchesOf g6) (cw_X8_175 hC rfl rfl ⟨Nat.le_of_ble_eq_true rfl, Nat.le_of_ble_eq_true rfl⟩) lc_5 rfl rfl rfl (Nat.le_of_ble_eq_true rfl) dX8_branch_14 ⟨Nat.zero_le _, Nat.zero_le _⟩ (fun H locs hP hS => ?_)
  obtain ⟨r7, σ8, g9, h⟩ := of_bnd h
  refine x_VV (As := [.int a3, .int r4]) (rest := []) hF hl hP hS (c_X8_checkIndex g9) (cw_X8_157 hC rfl rfl ⟨Nat.le_of_ble_eq_true rfl, Nat.le_of_ble_eq_true rfl⟩) lc_0 rfl rfl rfl (Nat.le_of_ble_eq_true rfl) dX8_branch_17 ⟨Nat.zero_le _, Nat.zero_le _⟩ (fun H locs hP hS => ?_)
  refine lv_iload hx hb dX8_branch_20 (lv_at hl 4 rfl) ?_
  refine lv_if_eq (tgt := 36) hx hb dX8_branch_22 (by decide) (fun c10 => ?_) (fun c10 => ?_)
  · have h := of_t h c10
    refine lv_aload_n hx hb dX8_branch_36 rfl (lv_at hl 0 rfl) ?_
    refine gf_X8_48 hC hb hP dX8_branch_37 ?_
    refine lv_iload_n hx hb dX8_branch_40 rfl (lv_at hl 1 rfl) ?_
    refine lv_iload_n hx hb dX8_branch_41 rfl (lv_at hl 2 rfl) ?_
    refine lv_iload_n hx hb dX8_branch_42 rfl (lv_at hl 3 rfl) ?_
    obtain ⟨r11, σ12, g13, h⟩ := of_bnd h
    refine x_VI (As := [.int a1, .int a2, .int a3]) (rest := []) hF hl hP hS (c_X5_targetOf g13) (cw_X8_189 hC rfl rfl ⟨Nat.le_of_ble_eq_true rfl, Nat.le_of_ble_eq_true rfl⟩) lc_5 rfl rfl rfl (Nat.le_of_ble_eq_true rfl) dX8_branch_43 ⟨Nat.zero_le _, Nat.zero_le _⟩ (fun H locs hP hS => ?_)
    exact x_iret hF hP hS h dX8_branch_46
  · have h := of_f h c10
    refine lv_aload_n hx hb dX8_branch_25 rfl (lv_at hl 0 rfl) ?_
    refine gf_X8_48 hC hb hP dX8_branch_26 ?_
    refine lv_iload_n hx hb dX8_branch_29 rfl (lv_at hl 1 rfl) ?_
    refine lv_iload_n hx hb dX8_branch_30 rfl (lv_at hl 2 rfl) ?_
    refine lv_iload_n hx hb dX8_branch_31 rfl (lv_at hl 3 rfl) ?_
    obtain ⟨r14, σ15, g16, h⟩ := of_bnd h
    refine x_VI (As := [.int a1, .int a2, .int a3]) (rest := []) hF hl hP hS (c_X5_chanceOf g16) (cw_X8_185 hC rfl rfl ⟨Nat.le_of_ble_eq_true rfl, Nat.le_of_ble_eq_true rfl⟩) lc_5 rfl rfl rfl (Nat.le_of_ble_eq_true rfl) dX8_branch_32 ⟨Nat.zero_le _, Nat.zero_le _⟩ (fun H locs hP hS => ?_)
    exact x_iret hF hP hS h dX8_branch_35

abbrev rm_X8_weigh : Room := { frames := 2, cells := 0, slots := 0, locals := 43 }
def f_X8_weigh (a1 : Int32) (a2 : Int32) (σ : Sta) : Option (Int32 × Sta) :=
  bnd (f_X8_checkGain a1 σ) (fun _ σ2 =>
  bnd (f_X8_checkRange a2 (-9) 9 σ2) (fun _ σ5 =>
  if a1 < 0 ∨ 3 ≤ (a1.toNatClampNeg) then none else (
  lt (gA σ5 9 (a1.toNatClampNeg)) (fun x8 =>
  if a1 < 0 ∨ 3 ≤ (a1.toNatClampNeg) then none else (
  lt (sA σ5 9 (upd (gA σ5 9) (a1.toNatClampNeg) a2)) (fun σ10 =>
  some (x8, σ10)))))))
set_option maxHeartbeats 4000000 in
set_option maxRecDepth 100000 in
theorem c_X8_weigh {l : Launch} {D : va_G} {Y : CYs} {E : Nat → Nat} {a1 : Int32} {a2 : Int32} {σ : Sta} {o : Int32 × Sta} (h : f_X8_weigh a1 a2 σ = some o) : MI l yX8_weigh (Cond.code yX8_weigh cX8_weigh 4 (some .int) :: gW) rm_X8_weigh LC Y D E [.ref (E 0), .int a1, .int a2] σ o := by
  intro sz
  refine Met_of (Qc := fun sz => QI LC Y D E sz o) (by decide) (Nat.le_of_ble_eq_true rfl) (fun p e s m args below meth c hF hP ls hl => ?_) sz
  have hS : va_S (AF E LC.length s.heap.size) s.heap s.heap [] := va_S.rf
  have hl : lv_has ls 4 [(0, .ref (E 0)), (1, .int a1), (2, .int a2)] := hl
  show WI p l e rm_X8_weigh s m args below meth c LC Y D E o s.heap [] (F0 m 0 ls [])
  unfold f_X8_weigh at h
  obtain ⟨hC, hb, hml, hr, hlk, hD, hSW⟩ := id hF
  have hx := hC.1
  refine lv_aload_n hx hb dX8_weigh_0 rfl (lv_at hl 0 rfl) ?_
  refine lv_iload_n hx hb dX8_weigh_1 rfl (lv_at hl 1 rfl) ?_
  obtain ⟨r1, σ2, g3, h⟩ := of_bnd h
  refine x_VV (As := [.int a1]) (rest := []) hF hl hP hS (c_X8_checkGain g3) (cw_X8_178 hC rfl rfl ⟨Nat.le_of_ble_eq_true rfl, Nat.le_of_ble_eq_true rfl⟩) lc_0 rfl rfl rfl (Nat.le_of_ble_eq_true rfl) dX8_weigh_2 ⟨Nat.zero_le _, Nat.zero_le _⟩ (fun H locs hP hS => ?_)
  refine lv_aload_n hx hb dX8_weigh_5 rfl (lv_at hl 0 rfl) ?_
  refine lv_iload_n hx hb dX8_weigh_6 rfl (lv_at hl 2 rfl) ?_
  refine lv_bipush (v := -9) hx hb dX8_weigh_7 (by decide) ?_
  refine lv_bipush (v := 9) hx hb dX8_weigh_9 (by decide) ?_
  obtain ⟨r4, σ5, g6, h⟩ := of_bnd h
  refine x_VV (As := [.int a2, .int (-9), .int 9]) (rest := []) hF hl hP hS (c_X8_checkRange g6) (cw_X8_96 hC rfl rfl ⟨Nat.le_of_ble_eq_true rfl, Nat.le_of_ble_eq_true rfl⟩) lc_0 rfl rfl rfl (Nat.le_of_ble_eq_true rfl) dX8_weigh_11 ⟨Nat.zero_le _, Nat.zero_le _⟩ (fun H locs hP hS => ?_)
  refine lv_aload_n hx hb dX8_weigh_14 rfl (lv_at hl 0 rfl) ?_
  refine gf_X8_68 hC hb hP dX8_weigh_15 ?_
  refine lv_iload_n hx hb dX8_weigh_18 rfl (lv_at hl 1 rfl) ?_
  obtain ⟨g7, h⟩ := of_gd h
  refine x_iald hC hb hP lc_9 g7 dX8_weigh_19 ?_
  refine lv_topi (fun x8 ex8 => ?_)
  have h := of_lt h ex8
  refine lv_istore_n (lv' := [(3, .int x8), (0, .ref (E 0)), (1, .int a1), (2, .int a2)]) hx hb dX8_weigh_20 rfl hl (by decide) rfl (fun ls hl => ?_)
  refine lv_aload_n hx hb dX8_weigh_21 rfl (lv_at hl 1 rfl) ?_
  refine gf_X8_68 hC hb hP dX8_weigh_22 ?_
  refine lv_iload_n hx hb dX8_weigh_25 rfl (lv_at hl 2 rfl) ?_
  refine lv_iload_n hx hb dX8_weigh_26 rfl (lv_at hl 3 rfl) ?_
  obtain ⟨g9, h⟩ := of_gd h
  refine x_iast lokC hC hb hP hD hS lc_9 g9 dX8_weigh_27 (fun H locs σ10 eσ10 hP hS => ?_)
  have h := of_lt h eσ10
  refine lv_iload_n hx hb dX8_weigh_28 rfl (lv_at hl 0 rfl) ?_
  exact x_iret hF hP hS h dX8_weigh_29

abbrev rm_X8_checkProgram : Room := { frames := 0, cells := 0, slots := 0, locals := 0 }
def f_X8_checkProgram (σ : Sta) : Option (Unit × Sta) :=
  if gI σ 322 = 0 then
    none
  else
    some ((), σ)
set_option maxHeartbeats 4000000 in
set_option maxRecDepth 100000 in
theorem c_X8_checkProgram {l : Launch} {D : va_G} {Y : CYs} {E : Nat → Nat} {σ : Sta} {o : Unit × Sta} (h : f_X8_checkProgram σ = some o) : MV l yX8_checkProgram (Cond.code yX8_checkProgram cX8_checkProgram 1 none :: gW) rm_X8_checkProgram LC Y D E [.ref (E 0)] σ o := by
  intro sz
  refine Met_of (Qc := fun sz => QV LC Y D E sz o) (by decide) (Nat.le_of_ble_eq_true rfl) (fun p e s m args below meth c hF hP ls hl => ?_) sz
  have hS : va_S (AF E LC.length s.heap.size) s.heap s.heap [] := va_S.rf
  have hl : lv_has ls 1 [(0, .ref (E 0))] := hl
  show WV p l e rm_X8_checkProgram s m args below meth c LC Y D E o s.heap [] (F0 m 0 ls [])
  unfold f_X8_checkProgram at h
  obtain ⟨hC, hb, hml, hr, hlk, hD, hSW⟩ := id hF
  have hx := hC.1
  refine lv_aload_n hx hb dX8_checkProgram_0 rfl (lv_at hl 0 rfl) ?_
  refine gf_X8_48 hC hb hP dX8_checkProgram_1 ?_
  refine gf_X8_129 hC hb hP dX8_checkProgram_4 ?_
  refine lv_if_ne (tgt := 21) hx hb dX8_checkProgram_7 (by decide) (fun c1 => ?_) (fun c1 => ?_)
  · have h := of_f h c1
    exact x_vret hF hP hS h dX8_checkProgram_21
  · have h := of_t h c1
    exact nomatch h

abbrev rm_X8_checkRoom : Room := { frames := 0, cells := 0, slots := 0, locals := 0 }
def f_X8_checkRoom (a1 : Int32) (σ : Sta) : Option (Unit × Sta) :=
  if a1 < 12 then
    some ((), σ)
  else
    none
set_option maxHeartbeats 4000000 in
set_option maxRecDepth 100000 in
theorem c_X8_checkRoom {l : Launch} {D : va_G} {Y : CYs} {E : Nat → Nat} {a1 : Int32} {σ : Sta} {o : Unit × Sta} (h : f_X8_checkRoom a1 σ = some o) : MV l yX8_checkRoom (Cond.code yX8_checkRoom cX8_checkRoom 2 none :: gW) rm_X8_checkRoom LC Y D E [.ref (E 0), .int a1] σ o := by
  intro sz
  refine Met_of (Qc := fun sz => QV LC Y D E sz o) (by decide) (Nat.le_of_ble_eq_true rfl) (fun p e s m args below meth c hF hP ls hl => ?_) sz
  have hS : va_S (AF E LC.length s.heap.size) s.heap s.heap [] := va_S.rf
  have hl : lv_has ls 2 [(0, .ref (E 0)), (1, .int a1)] := hl
  show WV p l e rm_X8_checkRoom s m args below meth c LC Y D E o s.heap [] (F0 m 0 ls [])
  unfold f_X8_checkRoom at h
  obtain ⟨hC, hb, hml, hr, hlk, hD, hSW⟩ := id hF
  have hx := hC.1
  refine lv_iload_n hx hb dX8_checkRoom_0 rfl (lv_at hl 1 rfl) ?_
  refine lv_bipush (v := 12) hx hb dX8_checkRoom_1 (by decide) ?_
  refine lv_icmp_lt (tgt := 17) hx hb dX8_checkRoom_3 (by decide) (fun c1 => ?_) (fun c1 => ?_)
  · have h := of_t h c1
    exact x_vret hF hP hS h dX8_checkRoom_17
  · have h := of_f h c1
    exact nomatch h

abbrev rm_X8_solve : Room := { frames := 6, cells := 0, slots := 0, locals := 147 }
def f_X8_solve_32 : Nat → Int32 → Nat → Int32 → Sta → Option (Int32 × Sta)
  | 0, _, _, _, _ => none
  | n + 1, v1, dv2, v3, σ => if 3 ≤ v3 then
      lt (sI σ (64 * (41 + 5 * dv2) + 1) v1) (fun σ2 =>
      bnd (f_X2_plan dv2 σ2) (fun _ σ4 =>
      lt (sI σ4 11 ((gI σ4 11) + 1)) (fun σ6 =>
      some ((gI σ6 11) - 1, σ6))))
    else
      if v3 < 0 ∨ 3 ≤ (v3.toNatClampNeg) then none else (
      if v3 < 0 ∨ 3 ≤ (v3.toNatClampNeg) then none else (
      lt (sA σ (41 + 5 * dv2 + 1) (upd (gA σ (41 + 5 * dv2 + 1)) (v3.toNatClampNeg) (gA σ 9 (v3.toNatClampNeg)))) (fun σ9 =>
      lt (v3 + 1) (fun x10 =>
      f_X8_solve_32 n v1 dv2 x10 σ9))))
set_option maxHeartbeats 4000000 in
set_option maxRecDepth 100000 in
theorem t_X8_solve_32 {l : Launch} {D : va_G} {Y : CYs} {E : Nat → Nat} {p : Program} {e : Env} {s : State} {m : MethodId} {args : Array Value} {below : List Frame} {meth : Method} {c : Code} (hF : Fr p s m args meth c RX8 cX8_solve 4 (some .int) D Y E LC) {o : Int32 × Sta} : ∀ (n : Nat) (v1 : Int32) (dv2 : Nat) (v3 : Int32) (σ : Sta) (H : Heap) (locs : List Loc) (ls : Array Slot), dv2 < 13 → f_X8_solve_32 n v1 dv2 v3 σ = some o → va_P D vwCl (wd Y E σ 0 LC) H → va_S (AF E LC.length s.heap.size) s.heap H locs → lv_has ls 4 [(0, .ref (E 0)), (1, .int v1), (2, .ref (E (41 + 5 * dv2))), (3, .int v3)] → WI p l e rm_X8_solve s m args below meth c LC Y D E o H locs (F0 m 32 ls []) := by
  intro n
  induction n with
  | zero =>
    intro v1 dv2 v3 σ H locs ls hdv2 h hP hS hl
    exact nomatch (show (none : Option (Int32 × Sta)) = some o from h)
  | succ n ih =>
    intro v1 dv2 v3 σ H locs ls hdv2 h hP hS hl
    rw [f_X8_solve_32] at h
    obtain ⟨hC, hb, hml, hr, hlk, hD, hSW⟩ := id hF
    have hx := hC.1
    refine lv_iload_n hx hb dX8_solve_32 rfl (lv_at hl 3 rfl) ?_
    refine lv_iconst (v := 3) hx hb dX8_solve_33 (by decide) ?_
    refine lv_icmp_ge (tgt := 55) hx hb dX8_solve_34 (by decide) (fun c1 => ?_) (fun c1 => ?_)
    · have h := of_t h c1
      refine lv_aload_n hx hb dX8_solve_55 rfl (lv_at hl 2 rfl) ?_
      refine lv_iload_n hx hb dX8_solve_56 rfl (lv_at hl 1 rfl) ?_
      refine pf_X8_199 hC hb hP hD hS hdv2 dX8_solve_57 (fun H locs σ2 eσ2 hP hS => ?_)
      have h := of_lt h eσ2
      refine lv_aload_n hx hb dX8_solve_60 rfl (lv_at hl 0 rfl) ?_
      refine gf_X8_57 hC hb hP dX8_solve_61 ?_
      refine lv_aload_n hx hb dX8_solve_64 rfl (lv_at hl 2 rfl) ?_
      obtain ⟨r3, σ4, g5, h⟩ := of_bnd h
      refine x_VV (As := [.ref (E (41 + 5 * dv2))]) (rest := []) hF hl hP hS (c_X2_plan hdv2 g5) (cw_X8_202 hC rfl rfl ⟨Nat.le_of_ble_eq_true rfl, Nat.le_of_ble_eq_true rfl⟩) lc_6 rfl rfl rfl (Nat.le_of_ble_eq_true rfl) dX8_solve_65 ⟨Nat.zero_le _, Nat.zero_le _⟩ (fun H locs hP hS => ?_)
      refine lv_aload_n hx hb dX8_solve_68 rfl (lv_at hl 0 rfl) ?_
      refine lv_dup hx hb dX8_solve_69 rfl ?_
      refine gf_X8_132 hC hb hP dX8_solve_70 ?_
      refine lv_iconst (v := 1) hx hb dX8_solve_73 (by decide) ?_
      refine lv_iadd hx hb dX8_solve_74 ?_
      refine pf_X8_132 hC hb hP hD hS dX8_solve_75 (fun H locs σ6 eσ6 hP hS => ?_)
      have h := of_lt h eσ6
      refine lv_aload_n hx hb dX8_solve_78 rfl (lv_at hl 0 rfl) ?_
      refine gf_X8_132 hC hb hP dX8_solve_79 ?_
      refine lv_iconst (v := 1) hx hb dX8_solve_82 (by decide) ?_
      refine lv_isub hx hb dX8_solve_83 ?_
      exact x_iret hF hP hS h dX8_solve_84
    · have h := of_f h c1
      refine lv_aload_n hx hb dX8_solve_37 rfl (lv_at hl 2 rfl) ?_
      refine gf_X8_198 hC hb hP hdv2 dX8_solve_38 ?_
      refine lv_iload_n hx hb dX8_solve_41 rfl (lv_at hl 3 rfl) ?_
      refine lv_aload_n hx hb dX8_solve_42 rfl (lv_at hl 0 rfl) ?_
      refine gf_X8_68 hC hb hP dX8_solve_43 ?_
      refine lv_iload_n hx hb dX8_solve_46 rfl (lv_at hl 3 rfl) ?_
      obtain ⟨g7, h⟩ := of_gd h
      refine x_iald hC hb hP lc_9 g7 dX8_solve_47 ?_
      obtain ⟨g8, h⟩ := of_gd h
      refine x_iast lokC hC hb hP hD hS (lc_s1 hdv2) g8 dX8_solve_48 (fun H locs σ9 eσ9 hP hS => ?_)
      have h := of_lt h eσ9
      obtain ⟨x10, ex10⟩ : ∃ y : Int32, y = v3 + 1 := ⟨_, rfl⟩
      have h := of_lt h ex10
      refine lv_iinc (v := x10) (lv' := [(3, .int x10), (0, .ref (E 0)), (1, .int v1), (2, .ref (E (41 + 5 * dv2)))]) hx hb dX8_solve_49 hl (k := 3) rfl (by rw [ex10]; rfl) (by decide) rfl (fun ls hl => ?_)
      refine lv_goto (tgt := 32) hx hb dX8_solve_52 (by decide) ?_
      exact ih v1 dv2 x10 σ9 _ _ _ hdv2 h hP hS (lv_sub hl [1, 2, 3, 0] rfl)

def f_X8_solve (a1 : Int32) (σ : Sta) : Option (Int32 × Sta) :=
  bnd (f_X8_checkRange a1 1 30 σ) (fun _ σ2 =>
  bnd (f_X8_checkProgram σ2) (fun _ σ5 =>
  bnd (f_X8_checkRoom (gI σ5 11) σ5) (fun _ σ8 =>
  if gI σ8 11 < 0 ∨ 13 ≤ ((gI σ8 11).toNatClampNeg) then none else (
  if 13 ≤ gP σ8 ((gI σ8 11).toNatClampNeg) then none else (
  lt (gP σ8 ((gI σ8 11).toNatClampNeg)) (fun d12 =>
  f_X8_solve_32 FU a1 d12 0 σ8))))))
set_option maxHeartbeats 4000000 in
set_option maxRecDepth 100000 in
theorem c_X8_solve {l : Launch} {D : va_G} {Y : CYs} {E : Nat → Nat} {a1 : Int32} {σ : Sta} {o : Int32 × Sta} (h : f_X8_solve a1 σ = some o) : MI l yX8_solve (Cond.code yX8_solve cX8_solve 4 (some .int) :: gW) rm_X8_solve LC Y D E [.ref (E 0), .int a1] σ o := by
  intro sz
  refine Met_of (Qc := fun sz => QI LC Y D E sz o) (by decide) (Nat.le_of_ble_eq_true rfl) (fun p e s m args below meth c hF hP ls hl => ?_) sz
  have hS : va_S (AF E LC.length s.heap.size) s.heap s.heap [] := va_S.rf
  have hl : lv_has ls 4 [(0, .ref (E 0)), (1, .int a1)] := hl
  show WI p l e rm_X8_solve s m args below meth c LC Y D E o s.heap [] (F0 m 0 ls [])
  unfold f_X8_solve at h
  obtain ⟨hC, hb, hml, hr, hlk, hD, hSW⟩ := id hF
  have hx := hC.1
  refine lv_aload_n hx hb dX8_solve_0 rfl (lv_at hl 0 rfl) ?_
  refine lv_iload_n hx hb dX8_solve_1 rfl (lv_at hl 1 rfl) ?_
  refine lv_iconst (v := 1) hx hb dX8_solve_2 (by decide) ?_
  refine lv_bipush (v := 30) hx hb dX8_solve_3 (by decide) ?_
  obtain ⟨r1, σ2, g3, h⟩ := of_bnd h
  refine x_VV (As := [.int a1, .int 1, .int 30]) (rest := []) hF hl hP hS (c_X8_checkRange g3) (cw_X8_96 hC rfl rfl ⟨Nat.le_of_ble_eq_true rfl, Nat.le_of_ble_eq_true rfl⟩) lc_0 rfl rfl rfl (Nat.le_of_ble_eq_true rfl) dX8_solve_5 ⟨Nat.zero_le _, Nat.zero_le _⟩ (fun H locs hP hS => ?_)
  refine lv_aload_n hx hb dX8_solve_8 rfl (lv_at hl 0 rfl) ?_
  obtain ⟨r4, σ5, g6, h⟩ := of_bnd h
  refine x_VV (As := []) (rest := []) hF hl hP hS (c_X8_checkProgram g6) (cw_X8_192 hC rfl rfl ⟨Nat.le_of_ble_eq_true rfl, Nat.le_of_ble_eq_true rfl⟩) lc_0 rfl rfl rfl (Nat.le_of_ble_eq_true rfl) dX8_solve_9 ⟨Nat.zero_le _, Nat.zero_le _⟩ (fun H locs hP hS => ?_)
  refine lv_aload_n hx hb dX8_solve_12 rfl (lv_at hl 0 rfl) ?_
  refine lv_aload_n hx hb dX8_solve_13 rfl (lv_at hl 0 rfl) ?_
  refine gf_X8_132 hC hb hP dX8_solve_14 ?_
  obtain ⟨r7, σ8, g9, h⟩ := of_bnd h
  refine x_VV (As := [.int (gI σ5 11)]) (rest := []) hF hl hP hS (c_X8_checkRoom g9) (cw_X8_195 hC rfl rfl ⟨Nat.le_of_ble_eq_true rfl, Nat.le_of_ble_eq_true rfl⟩) lc_0 rfl rfl rfl (Nat.le_of_ble_eq_true rfl) dX8_solve_17 ⟨Nat.zero_le _, Nat.zero_le _⟩ (fun H locs hP hS => ?_)
  refine lv_aload_n hx hb dX8_solve_20 rfl (lv_at hl 0 rfl) ?_
  refine gf_X8_73 hC hb hP dX8_solve_21 ?_
  refine lv_aload_n hx hb dX8_solve_24 rfl (lv_at hl 0 rfl) ?_
  refine gf_X8_132 hC hb hP dX8_solve_25 ?_
  obtain ⟨g10, h⟩ := of_gd h
  obtain ⟨g11, h⟩ := of_gd h
  refine x_aald hC hb hP lc_10 g10 dX8_solve_28 (fun d12 ed12 => ?_)
  have h := of_lt h ed12
  have hd12 : d12 < 13 := by rw [ed12]; exact Nat.lt_of_not_le g11
  refine lv_astore_n (lv' := [(2, .ref (E (41 + 5 * d12))), (0, .ref (E 0)), (1, .int a1)]) hx hb dX8_solve_29 rfl hl (by decide) rfl (fun ls hl => ?_)
  refine lv_iconst (v := 0) hx hb dX8_solve_30 (by decide) ?_
  refine lv_istore_n (lv' := [(3, .int 0), (2, .ref (E (41 + 5 * d12))), (0, .ref (E 0)), (1, .int a1)]) hx hb dX8_solve_31 rfl hl (by decide) rfl (fun ls hl => ?_)
  exact t_X8_solve_32  hF FU a1 d12 0 σ8 _ _ _ hd12 h hP hS (lv_sub hl [2, 3, 1, 0] rfl)

abbrev rm_X8_checkStrategy : Room := { frames := 1, cells := 0, slots := 0, locals := 22 }
def f_X8_checkStrategy (a1 : Int32) (σ : Sta) : Option (Unit × Sta) :=
  bnd (f_X8_checkIndex a1 (gI σ 11) σ) (fun _ σ2 =>
  some ((), σ2))
set_option maxHeartbeats 4000000 in
set_option maxRecDepth 100000 in
theorem c_X8_checkStrategy {l : Launch} {D : va_G} {Y : CYs} {E : Nat → Nat} {a1 : Int32} {σ : Sta} {o : Unit × Sta} (h : f_X8_checkStrategy a1 σ = some o) : MV l yX8_checkStrategy (Cond.code yX8_checkStrategy cX8_checkStrategy 2 none :: gW) rm_X8_checkStrategy LC Y D E [.ref (E 0), .int a1] σ o := by
  intro sz
  refine Met_of (Qc := fun sz => QV LC Y D E sz o) (by decide) (Nat.le_of_ble_eq_true rfl) (fun p e s m args below meth c hF hP ls hl => ?_) sz
  have hS : va_S (AF E LC.length s.heap.size) s.heap s.heap [] := va_S.rf
  have hl : lv_has ls 2 [(0, .ref (E 0)), (1, .int a1)] := hl
  show WV p l e rm_X8_checkStrategy s m args below meth c LC Y D E o s.heap [] (F0 m 0 ls [])
  unfold f_X8_checkStrategy at h
  obtain ⟨hC, hb, hml, hr, hlk, hD, hSW⟩ := id hF
  have hx := hC.1
  refine lv_aload_n hx hb dX8_checkStrategy_0 rfl (lv_at hl 0 rfl) ?_
  refine lv_iload_n hx hb dX8_checkStrategy_1 rfl (lv_at hl 1 rfl) ?_
  refine lv_aload_n hx hb dX8_checkStrategy_2 rfl (lv_at hl 0 rfl) ?_
  refine gf_X8_132 hC hb hP dX8_checkStrategy_3 ?_
  obtain ⟨r1, σ2, g3, h⟩ := of_bnd h
  refine x_VV (As := [.int a1, .int (gI σ 11)]) (rest := []) hF hl hP hS (c_X8_checkIndex g3) (cw_X8_157 hC rfl rfl ⟨Nat.le_of_ble_eq_true rfl, Nat.le_of_ble_eq_true rfl⟩) lc_0 rfl rfl rfl (Nat.le_of_ble_eq_true rfl) dX8_checkStrategy_6 ⟨Nat.zero_le _, Nat.zero_le _⟩ (fun H locs hP hS => ?_)
  exact x_vret hF hP hS h dX8_checkStrategy_9

abbrev rm_X8_takes : Room := { frames := 2, cells := 0, slots := 0, locals := 43 }
def f_X8_takes (a1 : Int32) (a2 : Int32) (a3 : Int32) (σ : Sta) : Option (Int32 × Sta) :=
  bnd (f_X8_checkStrategy a1 σ) (fun _ σ2 =>
  bnd (f_X8_checkState a2 σ2) (fun _ σ5 =>
  if a1 < 0 ∨ 13 ≤ (a1.toNatClampNeg) then none else (
  if 13 ≤ gP σ5 (a1.toNatClampNeg) then none else (
  lt (gP σ5 (a1.toNatClampNeg)) (fun d9 =>
  bnd (f_X8_checkRange a3 1 (gI σ5 (64 * (41 + 5 * d9) + 1)) σ5) (fun _ σ11 =>
  bnd (f_X6_takenIn d9 a2 a3 σ11) (fun r13 σ14 =>
  some (r13, σ14))))))))
set_option maxHeartbeats 4000000 in
set_option maxRecDepth 100000 in
theorem c_X8_takes {l : Launch} {D : va_G} {Y : CYs} {E : Nat → Nat} {a1 : Int32} {a2 : Int32} {a3 : Int32} {σ : Sta} {o : Int32 × Sta} (h : f_X8_takes a1 a2 a3 σ = some o) : MI l yX8_takes (Cond.code yX8_takes cX8_takes 5 (some .int) :: gW) rm_X8_takes LC Y D E [.ref (E 0), .int a1, .int a2, .int a3] σ o := by
  intro sz
  refine Met_of (Qc := fun sz => QI LC Y D E sz o) (by decide) (Nat.le_of_ble_eq_true rfl) (fun p e s m args below meth c hF hP ls hl => ?_) sz
  have hS : va_S (AF E LC.length s.heap.size) s.heap s.heap [] := va_S.rf
  have hl : lv_has ls 5 [(0, .ref (E 0)), (1, .int a1), (2, .int a2), (3, .int a3)] := hl
  show WI p l e rm_X8_takes s m args below meth c LC Y D E o s.heap [] (F0 m 0 ls [])
  unfold f_X8_takes at h
  obtain ⟨hC, hb, hml, hr, hlk, hD, hSW⟩ := id hF
  have hx := hC.1
  refine lv_aload_n hx hb dX8_takes_0 rfl (lv_at hl 0 rfl) ?_
  refine lv_iload_n hx hb dX8_takes_1 rfl (lv_at hl 1 rfl) ?_
  obtain ⟨r1, σ2, g3, h⟩ := of_bnd h
  refine x_VV (As := [.int a1]) (rest := []) hF hl hP hS (c_X8_checkStrategy g3) (cw_X8_206 hC rfl rfl ⟨Nat.le_of_ble_eq_true rfl, Nat.le_of_ble_eq_true rfl⟩) lc_0 rfl rfl rfl (Nat.le_of_ble_eq_true rfl) dX8_takes_2 ⟨Nat.zero_le _, Nat.zero_le _⟩ (fun H locs hP hS => ?_)
  refine lv_aload_n hx hb dX8_takes_5 rfl (lv_at hl 0 rfl) ?_
  refine lv_iload_n hx hb dX8_takes_6 rfl (lv_at hl 2 rfl) ?_
  obtain ⟨r4, σ5, g6, h⟩ := of_bnd h
  refine x_VV (As := [.int a2]) (rest := []) hF hl hP hS (c_X8_checkState g6) (cw_X8_140 hC rfl rfl ⟨Nat.le_of_ble_eq_true rfl, Nat.le_of_ble_eq_true rfl⟩) lc_0 rfl rfl rfl (Nat.le_of_ble_eq_true rfl) dX8_takes_7 ⟨Nat.zero_le _, Nat.zero_le _⟩ (fun H locs hP hS => ?_)
  refine lv_aload_n hx hb dX8_takes_10 rfl (lv_at hl 0 rfl) ?_
  refine gf_X8_73 hC hb hP dX8_takes_11 ?_
  refine lv_iload_n hx hb dX8_takes_14 rfl (lv_at hl 1 rfl) ?_
  obtain ⟨g7, h⟩ := of_gd h
  obtain ⟨g8, h⟩ := of_gd h
  refine x_aald hC hb hP lc_10 g7 dX8_takes_15 (fun d9 ed9 => ?_)
  have h := of_lt h ed9
  have hd9 : d9 < 13 := by rw [ed9]; exact Nat.lt_of_not_le g8
  refine lv_astore (lv' := [(4, .ref (E (41 + 5 * d9))), (0, .ref (E 0)), (1, .int a1), (2, .int a2), (3, .int a3)]) hx hb dX8_takes_16 hl (by decide) rfl (fun ls hl => ?_)
  refine lv_aload_n hx hb dX8_takes_18 rfl (lv_at hl 1 rfl) ?_
  refine lv_iload_n hx hb dX8_takes_19 rfl (lv_at hl 4 rfl) ?_
  refine lv_iconst (v := 1) hx hb dX8_takes_20 (by decide) ?_
  refine lv_aload hx hb dX8_takes_21 (lv_at hl 0 rfl) ?_
  refine gf_X8_199 hC hb hP hd9 dX8_takes_23 ?_
  obtain ⟨r10, σ11, g12, h⟩ := of_bnd h
  refine x_VV (As := [.int a3, .int 1, .int (gI σ5 (64 * (41 + 5 * d9) + 1))]) (rest := []) hF hl hP hS (c_X8_checkRange g12) (cw_X8_96 hC rfl rfl ⟨Nat.le_of_ble_eq_true rfl, Nat.le_of_ble_eq_true rfl⟩) lc_0 rfl rfl rfl (Nat.le_of_ble_eq_true rfl) dX8_takes_26 ⟨Nat.zero_le _, Nat.zero_le _⟩ (fun H locs hP hS => ?_)
  refine lv_aload hx hb dX8_takes_29 (lv_at hl 0 rfl) ?_
  refine lv_iload_n hx hb dX8_takes_31 rfl (lv_at hl 3 rfl) ?_
  refine lv_iload_n hx hb dX8_takes_32 rfl (lv_at hl 4 rfl) ?_
  obtain ⟨r13, σ14, g15, h⟩ := of_bnd h
  refine x_VI (As := [.int a2, .int a3]) (rest := []) hF hl hP hS (c_X6_takenIn hd9 g15) (cw_X8_209 hC rfl rfl ⟨Nat.le_of_ble_eq_true rfl, Nat.le_of_ble_eq_true rfl⟩) (lc_s0 hd9) rfl rfl rfl (Nat.le_of_ble_eq_true rfl) dX8_takes_33 ⟨Nat.zero_le _, Nat.zero_le _⟩ (fun H locs hP hS => ?_)
  exact x_iret hF hP hS h dX8_takes_36

abbrev rm_X8_worth : Room := { frames := 2, cells := 0, slots := 0, locals := 43 }
def f_X8_worth (a1 : Int32) (a2 : Int32) (a3 : Int32) (σ : Sta) : Option (Int64 × Sta) :=
  bnd (f_X8_checkStrategy a1 σ) (fun _ σ2 =>
  bnd (f_X8_checkState a2 σ2) (fun _ σ5 =>
  if a1 < 0 ∨ 13 ≤ (a1.toNatClampNeg) then none else (
  if 13 ≤ gP σ5 (a1.toNatClampNeg) then none else (
  lt (gP σ5 (a1.toNatClampNeg)) (fun d9 =>
  bnd (f_X8_checkRange a3 0 (gI σ5 (64 * (41 + 5 * d9) + 1)) σ5) (fun _ σ11 =>
  bnd (f_X8_entry_ (41 + 5 * d9 + 3) 3100 ((a3 * 100) + a2) σ11) (fun r13 σ14 =>
  some (r13, σ14))))))))
set_option maxHeartbeats 4000000 in
set_option maxRecDepth 100000 in
theorem c_X8_worth {l : Launch} {D : va_G} {Y : CYs} {E : Nat → Nat} {a1 : Int32} {a2 : Int32} {a3 : Int32} {σ : Sta} {o : Int64 × Sta} (h : f_X8_worth a1 a2 a3 σ = some o) : ML l yX8_worth (Cond.code yX8_worth cX8_worth 5 (some .long) :: gW) rm_X8_worth LC Y D E [.ref (E 0), .int a1, .int a2, .int a3] σ o := by
  intro sz
  refine Met_of (Qc := fun sz => QL LC Y D E sz o) (by decide) (Nat.le_of_ble_eq_true rfl) (fun p e s m args below meth c hF hP ls hl => ?_) sz
  have hS : va_S (AF E LC.length s.heap.size) s.heap s.heap [] := va_S.rf
  have hl : lv_has ls 5 [(0, .ref (E 0)), (1, .int a1), (2, .int a2), (3, .int a3)] := hl
  show WL p l e rm_X8_worth s m args below meth c LC Y D E o s.heap [] (F0 m 0 ls [])
  unfold f_X8_worth at h
  obtain ⟨hC, hb, hml, hr, hlk, hD, hSW⟩ := id hF
  have hx := hC.1
  refine lv_aload_n hx hb dX8_worth_0 rfl (lv_at hl 0 rfl) ?_
  refine lv_iload_n hx hb dX8_worth_1 rfl (lv_at hl 1 rfl) ?_
  obtain ⟨r1, σ2, g3, h⟩ := of_bnd h
  refine x_VV (As := [.int a1]) (rest := []) hF hl hP hS (c_X8_checkStrategy g3) (cw_X8_206 hC rfl rfl ⟨Nat.le_of_ble_eq_true rfl, Nat.le_of_ble_eq_true rfl⟩) lc_0 rfl rfl rfl (Nat.le_of_ble_eq_true rfl) dX8_worth_2 ⟨Nat.zero_le _, Nat.zero_le _⟩ (fun H locs hP hS => ?_)
  refine lv_aload_n hx hb dX8_worth_5 rfl (lv_at hl 0 rfl) ?_
  refine lv_iload_n hx hb dX8_worth_6 rfl (lv_at hl 2 rfl) ?_
  obtain ⟨r4, σ5, g6, h⟩ := of_bnd h
  refine x_VV (As := [.int a2]) (rest := []) hF hl hP hS (c_X8_checkState g6) (cw_X8_140 hC rfl rfl ⟨Nat.le_of_ble_eq_true rfl, Nat.le_of_ble_eq_true rfl⟩) lc_0 rfl rfl rfl (Nat.le_of_ble_eq_true rfl) dX8_worth_7 ⟨Nat.zero_le _, Nat.zero_le _⟩ (fun H locs hP hS => ?_)
  refine lv_aload_n hx hb dX8_worth_10 rfl (lv_at hl 0 rfl) ?_
  refine gf_X8_73 hC hb hP dX8_worth_11 ?_
  refine lv_iload_n hx hb dX8_worth_14 rfl (lv_at hl 1 rfl) ?_
  obtain ⟨g7, h⟩ := of_gd h
  obtain ⟨g8, h⟩ := of_gd h
  refine x_aald hC hb hP lc_10 g7 dX8_worth_15 (fun d9 ed9 => ?_)
  have h := of_lt h ed9
  have hd9 : d9 < 13 := by rw [ed9]; exact Nat.lt_of_not_le g8
  refine lv_astore (lv' := [(4, .ref (E (41 + 5 * d9))), (0, .ref (E 0)), (1, .int a1), (2, .int a2), (3, .int a3)]) hx hb dX8_worth_16 hl (by decide) rfl (fun ls hl => ?_)
  refine lv_aload_n hx hb dX8_worth_18 rfl (lv_at hl 1 rfl) ?_
  refine lv_iload_n hx hb dX8_worth_19 rfl (lv_at hl 4 rfl) ?_
  refine lv_iconst (v := 0) hx hb dX8_worth_20 (by decide) ?_
  refine lv_aload hx hb dX8_worth_21 (lv_at hl 0 rfl) ?_
  refine gf_X8_199 hC hb hP hd9 dX8_worth_23 ?_
  obtain ⟨r10, σ11, g12, h⟩ := of_bnd h
  refine x_VV (As := [.int a3, .int 0, .int (gI σ5 (64 * (41 + 5 * d9) + 1))]) (rest := []) hF hl hP hS (c_X8_checkRange g12) (cw_X8_96 hC rfl rfl ⟨Nat.le_of_ble_eq_true rfl, Nat.le_of_ble_eq_true rfl⟩) lc_0 rfl rfl rfl (Nat.le_of_ble_eq_true rfl) dX8_worth_26 ⟨Nat.zero_le _, Nat.zero_le _⟩ (fun H locs hP hS => ?_)
  refine lv_aload hx hb dX8_worth_29 (lv_at hl 0 rfl) ?_
  refine gf_X8_212 hC hb hP hd9 dX8_worth_31 ?_
  refine lv_iload_n hx hb dX8_worth_34 rfl (lv_at hl 4 rfl) ?_
  refine lv_bipush (v := 100) hx hb dX8_worth_35 (by decide) ?_
  refine lv_imul hx hb dX8_worth_37 ?_
  refine lv_iload_n hx hb dX8_worth_38 rfl (lv_at hl 3 rfl) ?_
  refine lv_iadd hx hb dX8_worth_39 ?_
  obtain ⟨r13, σ14, g15, h⟩ := of_bnd h
  refine x_SL (As := [.ref (E (41 + 5 * d9 + 3)), .int ((a3 * 100) + a2)]) (rest := []) hF hl hP hS (c_X8_entry_ (lc_s3 hd9) g15) (cw_X8_216 hC rfl rfl ⟨Nat.le_of_ble_eq_true rfl, Nat.le_of_ble_eq_true rfl⟩) rfl rfl (Nat.le_of_ble_eq_true rfl) dX8_worth_40 ⟨Nat.zero_le _, Nat.zero_le _⟩ (fun H locs hP hS => ?_)
  exact x_lret hF hP hS h dX8_worth_43

abbrev rm_X8_brings : Room := { frames := 2, cells := 0, slots := 0, locals := 43 }
def f_X8_brings (a1 : Int32) (a2 : Int32) (σ : Sta) : Option (Int64 × Sta) :=
  bnd (f_X8_checkStrategy a1 σ) (fun _ σ2 =>
  bnd (f_X8_checkGain a2 σ2) (fun _ σ5 =>
  if a1 < 0 ∨ 13 ≤ (a1.toNatClampNeg) then none else (
  if 13 ≤ gP σ5 (a1.toNatClampNeg) then none else (
  lt (gP σ5 (a1.toNatClampNeg)) (fun d9 =>
  if a2 < 0 ∨ 3 ≤ (a2.toNatClampNeg) then none else (
  some (gJ σ5 (41 + 5 * d9 + 4) (a2.toNatClampNeg), σ5)))))))
set_option maxHeartbeats 4000000 in
set_option maxRecDepth 100000 in
theorem c_X8_brings {l : Launch} {D : va_G} {Y : CYs} {E : Nat → Nat} {a1 : Int32} {a2 : Int32} {σ : Sta} {o : Int64 × Sta} (h : f_X8_brings a1 a2 σ = some o) : ML l yX8_brings (Cond.code yX8_brings cX8_brings 3 (some .long) :: gW) rm_X8_brings LC Y D E [.ref (E 0), .int a1, .int a2] σ o := by
  intro sz
  refine Met_of (Qc := fun sz => QL LC Y D E sz o) (by decide) (Nat.le_of_ble_eq_true rfl) (fun p e s m args below meth c hF hP ls hl => ?_) sz
  have hS : va_S (AF E LC.length s.heap.size) s.heap s.heap [] := va_S.rf
  have hl : lv_has ls 3 [(0, .ref (E 0)), (1, .int a1), (2, .int a2)] := hl
  show WL p l e rm_X8_brings s m args below meth c LC Y D E o s.heap [] (F0 m 0 ls [])
  unfold f_X8_brings at h
  obtain ⟨hC, hb, hml, hr, hlk, hD, hSW⟩ := id hF
  have hx := hC.1
  refine lv_aload_n hx hb dX8_brings_0 rfl (lv_at hl 0 rfl) ?_
  refine lv_iload_n hx hb dX8_brings_1 rfl (lv_at hl 1 rfl) ?_
  obtain ⟨r1, σ2, g3, h⟩ := of_bnd h
  refine x_VV (As := [.int a1]) (rest := []) hF hl hP hS (c_X8_checkStrategy g3) (cw_X8_206 hC rfl rfl ⟨Nat.le_of_ble_eq_true rfl, Nat.le_of_ble_eq_true rfl⟩) lc_0 rfl rfl rfl (Nat.le_of_ble_eq_true rfl) dX8_brings_2 ⟨Nat.zero_le _, Nat.zero_le _⟩ (fun H locs hP hS => ?_)
  refine lv_aload_n hx hb dX8_brings_5 rfl (lv_at hl 0 rfl) ?_
  refine lv_iload_n hx hb dX8_brings_6 rfl (lv_at hl 2 rfl) ?_
  obtain ⟨r4, σ5, g6, h⟩ := of_bnd h
  refine x_VV (As := [.int a2]) (rest := []) hF hl hP hS (c_X8_checkGain g6) (cw_X8_178 hC rfl rfl ⟨Nat.le_of_ble_eq_true rfl, Nat.le_of_ble_eq_true rfl⟩) lc_0 rfl rfl rfl (Nat.le_of_ble_eq_true rfl) dX8_brings_7 ⟨Nat.zero_le _, Nat.zero_le _⟩ (fun H locs hP hS => ?_)
  refine lv_aload_n hx hb dX8_brings_10 rfl (lv_at hl 0 rfl) ?_
  refine gf_X8_73 hC hb hP dX8_brings_11 ?_
  refine lv_iload_n hx hb dX8_brings_14 rfl (lv_at hl 1 rfl) ?_
  obtain ⟨g7, h⟩ := of_gd h
  obtain ⟨g8, h⟩ := of_gd h
  refine x_aald hC hb hP lc_10 g7 dX8_brings_15 (fun d9 ed9 => ?_)
  have h := of_lt h ed9
  have hd9 : d9 < 13 := by rw [ed9]; exact Nat.lt_of_not_le g8
  refine gf_X8_219 hC hb hP hd9 dX8_brings_16 ?_
  refine lv_iload_n hx hb dX8_brings_19 rfl (lv_at hl 2 rfl) ?_
  obtain ⟨g10, h⟩ := of_gd h
  refine x_lald hC hb hP (lc_s4 hd9) g10 dX8_brings_20 ?_
  exact x_lret hF hP hS h dX8_brings_21

abbrev rm_X8_chance : Room := { frames := 2, cells := 0, slots := 0, locals := 43 }
def f_X8_chance (a1 : Int32) (σ : Sta) : Option (Int32 × Sta) :=
  bnd (f_X8_checkStrategy a1 σ) (fun _ σ2 =>
  if a1 < 0 ∨ 13 ≤ (a1.toNatClampNeg) then none else (
  if 13 ≤ gP σ2 (a1.toNatClampNeg) then none else (
  lt (gP σ2 (a1.toNatClampNeg)) (fun d6 =>
  some (gI σ2 (64 * (41 + 5 * d6) + 5), σ2)))))
set_option maxHeartbeats 4000000 in
set_option maxRecDepth 100000 in
theorem c_X8_chance {l : Launch} {D : va_G} {Y : CYs} {E : Nat → Nat} {a1 : Int32} {σ : Sta} {o : Int32 × Sta} (h : f_X8_chance a1 σ = some o) : MI l yX8_chance (Cond.code yX8_chance cX8_chance 2 (some .int) :: gW) rm_X8_chance LC Y D E [.ref (E 0), .int a1] σ o := by
  intro sz
  refine Met_of (Qc := fun sz => QI LC Y D E sz o) (by decide) (Nat.le_of_ble_eq_true rfl) (fun p e s m args below meth c hF hP ls hl => ?_) sz
  have hS : va_S (AF E LC.length s.heap.size) s.heap s.heap [] := va_S.rf
  have hl : lv_has ls 2 [(0, .ref (E 0)), (1, .int a1)] := hl
  show WI p l e rm_X8_chance s m args below meth c LC Y D E o s.heap [] (F0 m 0 ls [])
  unfold f_X8_chance at h
  obtain ⟨hC, hb, hml, hr, hlk, hD, hSW⟩ := id hF
  have hx := hC.1
  refine lv_aload_n hx hb dX8_chance_0 rfl (lv_at hl 0 rfl) ?_
  refine lv_iload_n hx hb dX8_chance_1 rfl (lv_at hl 1 rfl) ?_
  obtain ⟨r1, σ2, g3, h⟩ := of_bnd h
  refine x_VV (As := [.int a1]) (rest := []) hF hl hP hS (c_X8_checkStrategy g3) (cw_X8_206 hC rfl rfl ⟨Nat.le_of_ble_eq_true rfl, Nat.le_of_ble_eq_true rfl⟩) lc_0 rfl rfl rfl (Nat.le_of_ble_eq_true rfl) dX8_chance_2 ⟨Nat.zero_le _, Nat.zero_le _⟩ (fun H locs hP hS => ?_)
  refine lv_aload_n hx hb dX8_chance_5 rfl (lv_at hl 0 rfl) ?_
  refine gf_X8_73 hC hb hP dX8_chance_6 ?_
  refine lv_iload_n hx hb dX8_chance_9 rfl (lv_at hl 1 rfl) ?_
  obtain ⟨g4, h⟩ := of_gd h
  obtain ⟨g5, h⟩ := of_gd h
  refine x_aald hC hb hP lc_10 g4 dX8_chance_10 (fun d6 ed6 => ?_)
  have h := of_lt h ed6
  have hd6 : d6 < 13 := by rw [ed6]; exact Nat.lt_of_not_le g5
  refine gf_X8_222 hC hb hP hd6 dX8_chance_11 ?_
  exact x_iret hF hP hS h dX8_chance_14

abbrev rm_X8_isBetter : Room := { frames := 0, cells := 0, slots := 0, locals := 0 }
def f_X8_isBetter_64 (d1 : Nat) (d2 : Nat) (k5 : Int32 → Int32 → Sta → Option (Int32 × Sta)) (v4 : Int32) (s0 : Int32) (σ : Sta) : Option (Int32 × Sta) :=
  lt (v4 + 1) (fun x1 =>
  k5 s0 x1 σ)
set_option maxHeartbeats 4000000 in
set_option maxRecDepth 100000 in
theorem t_X8_isBetter_64 {l : Launch} {D : va_G} {Y : CYs} {E : Nat → Nat} {p : Program} {e : Env} {s : State} {m : MethodId} {args : Array Value} {below : List Frame} {meth : Method} {c : Code} {d1 : Nat} {d2 : Nat} (hd1 : d1 < 13) (hd2 : d2 < 13) (hF : Fr p s m args meth c RX8 cX8_isBetter 5 (some .boolean) D Y E LC) {o : Int32 × Sta} (k5 : Int32 → Int32 → Sta → Option (Int32 × Sta)) (hk5 : ∀ (v3 : Int32) (v4 : Int32) (σ : Sta) (H : Heap) (locs : List Loc) (ls : Array Slot), k5 v3 v4 σ = some o → va_P D vwCl (wd Y E σ 0 LC) H → va_S (AF E LC.length s.heap.size) s.heap H locs → lv_has ls 5 [(0, .ref (E 0)), (1, .ref (E (41 + 5 * d1))), (2, .ref (E (41 + 5 * d2))), (3, .int v3), (4, .int v4)] → WI p l e rm_X8_isBetter s m args below meth c LC Y D E o H locs (F0 m 5 ls [])) : ∀ (v4 : Int32) (s0 : Int32) (σ : Sta) (H : Heap) (locs : List Loc) (ls : Array Slot), f_X8_isBetter_64 d1 d2 k5 v4 s0 σ = some o → va_P D vwCl (wd Y E σ 0 LC) H → va_S (AF E LC.length s.heap.size) s.heap H locs → lv_has ls 5 [(0, .ref (E 0)), (1, .ref (E (41 + 5 * d1))), (2, .ref (E (41 + 5 * d2))), (4, .int v4)] → WI p l e rm_X8_isBetter s m args below meth c LC Y D E o H locs (F0 m 64 ls [.int s0]) := by
  intro v4 s0 σ H locs ls h hP hS hl
  unfold f_X8_isBetter_64 at h
  obtain ⟨hC, hb, hml, hr, hlk, hD, hSW⟩ := id hF
  have hx := hC.1
  refine lv_istore_n (lv' := [(3, .int s0), (0, .ref (E 0)), (1, .ref (E (41 + 5 * d1))), (2, .ref (E (41 + 5 * d2))), (4, .int v4)]) hx hb dX8_isBetter_64 rfl hl (by decide) rfl (fun ls hl => ?_)
  obtain ⟨x1, ex1⟩ : ∃ y : Int32, y = v4 + 1 := ⟨_, rfl⟩
  have h := of_lt h ex1
  refine lv_iinc (v := x1) (lv' := [(4, .int x1), (3, .int s0), (0, .ref (E 0)), (1, .ref (E (41 + 5 * d1))), (2, .ref (E (41 + 5 * d2)))]) hx hb dX8_isBetter_65 hl (k := 4) rfl (by rw [ex1]; rfl) (by decide) rfl (fun ls hl => ?_)
  refine lv_goto (tgt := 5) hx hb dX8_isBetter_68 (by decide) ?_
  exact hk5 s0 x1 σ _ _ _ h hP hS (lv_sub hl [2, 3, 4, 1, 0] rfl)

def f_X8_isBetter_59 (d1 : Nat) (d2 : Nat) (k5 : Int32 → Int32 → Sta → Option (Int32 × Sta)) (v4 : Int32) (σ : Sta) : Option (Int32 × Sta) :=
  f_X8_isBetter_64 d1 d2 k5 v4 1 σ
set_option maxHeartbeats 4000000 in
set_option maxRecDepth 100000 in
theorem t_X8_isBetter_59 {l : Launch} {D : va_G} {Y : CYs} {E : Nat → Nat} {p : Program} {e : Env} {s : State} {m : MethodId} {args : Array Value} {below : List Frame} {meth : Method} {c : Code} {d1 : Nat} {d2 : Nat} (hd1 : d1 < 13) (hd2 : d2 < 13) (hF : Fr p s m args meth c RX8 cX8_isBetter 5 (some .boolean) D Y E LC) {o : Int32 × Sta} (k5 : Int32 → Int32 → Sta → Option (Int32 × Sta)) (hk5 : ∀ (v3 : Int32) (v4 : Int32) (σ : Sta) (H : Heap) (locs : List Loc) (ls : Array Slot), k5 v3 v4 σ = some o → va_P D vwCl (wd Y E σ 0 LC) H → va_S (AF E LC.length s.heap.size) s.heap H locs → lv_has ls 5 [(0, .ref (E 0)), (1, .ref (E (41 + 5 * d1))), (2, .ref (E (41 + 5 * d2))), (3, .int v3), (4, .int v4)] → WI p l e rm_X8_isBetter s m args below meth c LC Y D E o H locs (F0 m 5 ls [])) : ∀ (v4 : Int32) (σ : Sta) (H : Heap) (locs : List Loc) (ls : Array Slot), f_X8_isBetter_59 d1 d2 k5 v4 σ = some o → va_P D vwCl (wd Y E σ 0 LC) H → va_S (AF E LC.length s.heap.size) s.heap H locs → lv_has ls 5 [(0, .ref (E 0)), (1, .ref (E (41 + 5 * d1))), (2, .ref (E (41 + 5 * d2))), (4, .int v4)] → WI p l e rm_X8_isBetter s m args below meth c LC Y D E o H locs (F0 m 59 ls []) := by
  intro v4 σ H locs ls h hP hS hl
  unfold f_X8_isBetter_59 at h
  obtain ⟨hC, hb, hml, hr, hlk, hD, hSW⟩ := id hF
  have hx := hC.1
  refine lv_iconst (v := 1) hx hb dX8_isBetter_59 (by decide) ?_
  refine lv_goto (tgt := 64) hx hb dX8_isBetter_60 (by decide) ?_
  exact t_X8_isBetter_64  hd1 hd2 hF k5 hk5 v4 1 σ _ _ _ h hP hS (lv_sub hl [0, 1, 2, 3] rfl)

def f_X8_isBetter_5 (d1 : Nat) (d2 : Nat) : Nat → Int32 → Int32 → Sta → Option (Int32 × Sta)
  | 0, _, _, _ => none
  | n + 1, v3, v4, σ => if gI σ 197 ≤ v4 then
      if ¬ (v3 = 0 ∨ v3 = 1) then none else (
      some (v3, σ))
    else
      if v4 < 0 ∨ 3 ≤ (v4.toNatClampNeg) then none else (
      if v4 < 0 ∨ 3 ≤ (v4.toNatClampNeg) then none else (
      if 0 ≤ lg_cmp (gJ σ (41 + 5 * d1 + 4) (v4.toNatClampNeg)) (gJ σ (41 + 5 * d2 + 4) (v4.toNatClampNeg)) then
        if v3 = 0 then
          if v4 < 0 ∨ 3 ≤ (v4.toNatClampNeg) then none else (
          if v4 < 0 ∨ 3 ≤ (v4.toNatClampNeg) then none else (
          if lg_cmp (gJ σ (41 + 5 * d1 + 4) (v4.toNatClampNeg)) (gJ σ (41 + 5 * d2 + 4) (v4.toNatClampNeg)) ≤ 0 then
            f_X8_isBetter_64 d1 d2 (f_X8_isBetter_5 d1 d2 n) v4 0 σ
          else
            f_X8_isBetter_59 d1 d2 (f_X8_isBetter_5 d1 d2 n) v4 σ))
        else
          f_X8_isBetter_59 d1 d2 (f_X8_isBetter_5 d1 d2 n) v4 σ
      else
        some (0, σ)))
set_option maxHeartbeats 4000000 in
set_option maxRecDepth 100000 in
theorem t_X8_isBetter_5 {l : Launch} {D : va_G} {Y : CYs} {E : Nat → Nat} {p : Program} {e : Env} {s : State} {m : MethodId} {args : Array Value} {below : List Frame} {meth : Method} {c : Code} {d1 : Nat} {d2 : Nat} (hd1 : d1 < 13) (hd2 : d2 < 13) (hF : Fr p s m args meth c RX8 cX8_isBetter 5 (some .boolean) D Y E LC) {o : Int32 × Sta} : ∀ (n : Nat) (v3 : Int32) (v4 : Int32) (σ : Sta) (H : Heap) (locs : List Loc) (ls : Array Slot), f_X8_isBetter_5 d1 d2 n v3 v4 σ = some o → va_P D vwCl (wd Y E σ 0 LC) H → va_S (AF E LC.length s.heap.size) s.heap H locs → lv_has ls 5 [(0, .ref (E 0)), (1, .ref (E (41 + 5 * d1))), (2, .ref (E (41 + 5 * d2))), (3, .int v3), (4, .int v4)] → WI p l e rm_X8_isBetter s m args below meth c LC Y D E o H locs (F0 m 5 ls []) := by
  intro n
  induction n with
  | zero =>
    intro v3 v4 σ H locs ls h hP hS hl
    exact nomatch (show (none : Option (Int32 × Sta)) = some o from h)
  | succ n ih =>
    intro v3 v4 σ H locs ls h hP hS hl
    rw [f_X8_isBetter_5] at h
    obtain ⟨hC, hb, hml, hr, hlk, hD, hSW⟩ := id hF
    have hx := hC.1
    refine lv_iload hx hb dX8_isBetter_5 (lv_at hl 4 rfl) ?_
    refine lv_aload_n hx hb dX8_isBetter_7 rfl (lv_at hl 0 rfl) ?_
    refine gf_X8_30 hC hb hP dX8_isBetter_8 ?_
    refine gf_X8_123 hC hb hP dX8_isBetter_11 ?_
    refine lv_icmp_ge (tgt := 71) hx hb dX8_isBetter_14 (by decide) (fun c1 => ?_) (fun c1 => ?_)
    · have h := of_t h c1
      refine lv_iload_n hx hb dX8_isBetter_71 rfl (lv_at hl 3 rfl) ?_
      obtain ⟨g2, h⟩ := of_gd h
      exact x_zret hF hP hS (zb g2) h dX8_isBetter_72
    · have h := of_f h c1
      refine lv_aload_n hx hb dX8_isBetter_17 rfl (lv_at hl 1 rfl) ?_
      refine gf_X8_219 hC hb hP hd1 dX8_isBetter_18 ?_
      refine lv_iload hx hb dX8_isBetter_21 (lv_at hl 4 rfl) ?_
      obtain ⟨g3, h⟩ := of_gd h
      refine x_lald hC hb hP (lc_s4 hd1) g3 dX8_isBetter_23 ?_
      refine lv_aload_n hx hb dX8_isBetter_24 rfl (lv_at hl 2 rfl) ?_
      refine gf_X8_219 hC hb hP hd2 dX8_isBetter_25 ?_
      refine lv_iload hx hb dX8_isBetter_28 (lv_at hl 4 rfl) ?_
      obtain ⟨g4, h⟩ := of_gd h
      refine x_lald hC hb hP (lc_s4 hd2) g4 dX8_isBetter_30 ?_
      refine W.lcmp hx hb dX8_isBetter_31 ?_
      refine lv_if_ge (tgt := 37) hx hb dX8_isBetter_32 (by decide) (fun c5 => ?_) (fun c5 => ?_)
      · have h := of_t h c5
        refine lv_iload_n hx hb dX8_isBetter_37 rfl (lv_at hl 3 rfl) ?_
        refine lv_if_ne (tgt := 59) hx hb dX8_isBetter_38 (by decide) (fun c6 => ?_) (fun c6 => ?_)
        · have h := of_f h c6
          exact t_X8_isBetter_59  hd1 hd2 hF (f_X8_isBetter_5 d1 d2 n) ih v4 σ _ _ _ h hP hS (lv_sub hl [0, 1, 2, 4] rfl)
        · have h := of_t h c6
          refine lv_aload_n hx hb dX8_isBetter_41 rfl (lv_at hl 1 rfl) ?_
          refine gf_X8_219 hC hb hP hd1 dX8_isBetter_42 ?_
          refine lv_iload hx hb dX8_isBetter_45 (lv_at hl 4 rfl) ?_
          obtain ⟨g7, h⟩ := of_gd h
          refine x_lald hC hb hP (lc_s4 hd1) g7 dX8_isBetter_47 ?_
          refine lv_aload_n hx hb dX8_isBetter_48 rfl (lv_at hl 2 rfl) ?_
          refine gf_X8_219 hC hb hP hd2 dX8_isBetter_49 ?_
          refine lv_iload hx hb dX8_isBetter_52 (lv_at hl 4 rfl) ?_
          obtain ⟨g8, h⟩ := of_gd h
          refine x_lald hC hb hP (lc_s4 hd2) g8 dX8_isBetter_54 ?_
          refine W.lcmp hx hb dX8_isBetter_55 ?_
          refine lv_if_le (tgt := 63) hx hb dX8_isBetter_56 (by decide) (fun c9 => ?_) (fun c9 => ?_)
          · have h := of_t h c9
            refine lv_iconst (v := 0) hx hb dX8_isBetter_63 (by decide) ?_
            exact t_X8_isBetter_64  hd1 hd2 hF (f_X8_isBetter_5 d1 d2 n) ih v4 0 σ _ _ _ h hP hS (lv_sub hl [0, 1, 2, 4] rfl)
          · have h := of_f h c9
            exact t_X8_isBetter_59  hd1 hd2 hF (f_X8_isBetter_5 d1 d2 n) ih v4 σ _ _ _ h hP hS (lv_sub hl [0, 1, 2, 4] rfl)
      · have h := of_f h c5
        refine lv_iconst (v := 0) hx hb dX8_isBetter_35 (by decide) ?_
        exact x_zret hF hP hS rfl h dX8_isBetter_36

def f_X8_isBetter (d1 : Nat) (d2 : Nat) (σ : Sta) : Option (Int32 × Sta) :=
  f_X8_isBetter_5 d1 d2 FU 0 0 σ
set_option maxHeartbeats 4000000 in
set_option maxRecDepth 100000 in
theorem c_X8_isBetter {l : Launch} {D : va_G} {Y : CYs} {E : Nat → Nat} {d1 : Nat} {d2 : Nat} (hd1 : d1 < 13) (hd2 : d2 < 13) {σ : Sta} {o : Int32 × Sta} (h : f_X8_isBetter d1 d2 σ = some o) : MI l yX8_isBetter (Cond.code yX8_isBetter cX8_isBetter 5 (some .boolean) :: gW) rm_X8_isBetter LC Y D E [.ref (E 0), .ref (E (41 + 5 * d1)), .ref (E (41 + 5 * d2))] σ o := by
  intro sz
  refine Met_of (Qc := fun sz => QI LC Y D E sz o) (by decide) (Nat.le_of_ble_eq_true rfl) (fun p e s m args below meth c hF hP ls hl => ?_) sz
  have hS : va_S (AF E LC.length s.heap.size) s.heap s.heap [] := va_S.rf
  have hl : lv_has ls 5 [(0, .ref (E 0)), (1, .ref (E (41 + 5 * d1))), (2, .ref (E (41 + 5 * d2)))] := hl
  show WI p l e rm_X8_isBetter s m args below meth c LC Y D E o s.heap [] (F0 m 0 ls [])
  unfold f_X8_isBetter at h
  obtain ⟨hC, hb, hml, hr, hlk, hD, hSW⟩ := id hF
  have hx := hC.1
  refine lv_iconst (v := 0) hx hb dX8_isBetter_0 (by decide) ?_
  refine lv_istore_n (lv' := [(3, .int 0), (0, .ref (E 0)), (1, .ref (E (41 + 5 * d1))), (2, .ref (E (41 + 5 * d2)))]) hx hb dX8_isBetter_1 rfl hl (by decide) rfl (fun ls hl => ?_)
  refine lv_iconst (v := 0) hx hb dX8_isBetter_2 (by decide) ?_
  refine lv_istore (lv' := [(4, .int 0), (3, .int 0), (0, .ref (E 0)), (1, .ref (E (41 + 5 * d1))), (2, .ref (E (41 + 5 * d2)))]) hx hb dX8_isBetter_3 hl (by decide) rfl (fun ls hl => ?_)
  exact t_X8_isBetter_5  hd1 hd2 hF FU 0 0 σ _ _ _ h hP hS (lv_sub hl [2, 3, 4, 1, 0] rfl)

abbrev rm_X8_isWorthHaving : Room := { frames := 2, cells := 0, slots := 0, locals := 43 }
def f_X8_isWorthHaving_7 : Nat → Int32 → Int32 → Sta → Option (Int32 × Sta)
  | 0, _, _, _ => none
  | n + 1, v1, v2, σ => if gI σ 11 ≤ v2 then
      some (1, σ)
    else
      if v2 < 0 ∨ 13 ≤ (v2.toNatClampNeg) then none else (
      if 13 ≤ gP σ (v2.toNatClampNeg) then none else (
      lt (gP σ (v2.toNatClampNeg)) (fun d4 =>
      if v1 < 0 ∨ 13 ≤ (v1.toNatClampNeg) then none else (
      if 13 ≤ gP σ (v1.toNatClampNeg) then none else (
      lt (gP σ (v1.toNatClampNeg)) (fun d7 =>
      bnd (f_X8_isBetter d4 d7 σ) (fun r8 σ9 =>
      if r8 = 0 then
        lt (v2 + 1) (fun x12 =>
        f_X8_isWorthHaving_7 n v1 x12 σ9)
      else
        some (0, σ9))))))))
set_option maxHeartbeats 4000000 in
set_option maxRecDepth 100000 in
theorem t_X8_isWorthHaving_7 {l : Launch} {D : va_G} {Y : CYs} {E : Nat → Nat} {p : Program} {e : Env} {s : State} {m : MethodId} {args : Array Value} {below : List Frame} {meth : Method} {c : Code} (hF : Fr p s m args meth c RX8 cX8_isWorthHaving 3 (some .boolean) D Y E LC) {o : Int32 × Sta} : ∀ (n : Nat) (v1 : Int32) (v2 : Int32) (σ : Sta) (H : Heap) (locs : List Loc) (ls : Array Slot), f_X8_isWorthHaving_7 n v1 v2 σ = some o → va_P D vwCl (wd Y E σ 0 LC) H → va_S (AF E LC.length s.heap.size) s.heap H locs → lv_has ls 3 [(0, .ref (E 0)), (1, .int v1), (2, .int v2)] → WI p l e rm_X8_isWorthHaving s m args below meth c LC Y D E o H locs (F0 m 7 ls []) := by
  intro n
  induction n with
  | zero =>
    intro v1 v2 σ H locs ls h hP hS hl
    exact nomatch (show (none : Option (Int32 × Sta)) = some o from h)
  | succ n ih =>
    intro v1 v2 σ H locs ls h hP hS hl
    rw [f_X8_isWorthHaving_7] at h
    obtain ⟨hC, hb, hml, hr, hlk, hD, hSW⟩ := id hF
    have hx := hC.1
    refine lv_iload_n hx hb dX8_isWorthHaving_7 rfl (lv_at hl 2 rfl) ?_
    refine lv_aload_n hx hb dX8_isWorthHaving_8 rfl (lv_at hl 0 rfl) ?_
    refine gf_X8_132 hC hb hP dX8_isWorthHaving_9 ?_
    refine lv_icmp_ge (tgt := 42) hx hb dX8_isWorthHaving_12 (by decide) (fun c1 => ?_) (fun c1 => ?_)
    · have h := of_t h c1
      refine lv_iconst (v := 1) hx hb dX8_isWorthHaving_42 (by decide) ?_
      exact x_zret hF hP hS rfl h dX8_isWorthHaving_43
    · have h := of_f h c1
      refine lv_aload_n hx hb dX8_isWorthHaving_15 rfl (lv_at hl 0 rfl) ?_
      refine lv_aload_n hx hb dX8_isWorthHaving_16 rfl (lv_at hl 0 rfl) ?_
      refine gf_X8_73 hC hb hP dX8_isWorthHaving_17 ?_
      refine lv_iload_n hx hb dX8_isWorthHaving_20 rfl (lv_at hl 2 rfl) ?_
      obtain ⟨g2, h⟩ := of_gd h
      obtain ⟨g3, h⟩ := of_gd h
      refine x_aald hC hb hP lc_10 g2 dX8_isWorthHaving_21 (fun d4 ed4 => ?_)
      have h := of_lt h ed4
      have hd4 : d4 < 13 := by rw [ed4]; exact Nat.lt_of_not_le g3
      refine lv_aload_n hx hb dX8_isWorthHaving_22 rfl (lv_at hl 0 rfl) ?_
      refine gf_X8_73 hC hb hP dX8_isWorthHaving_23 ?_
      refine lv_iload_n hx hb dX8_isWorthHaving_26 rfl (lv_at hl 1 rfl) ?_
      obtain ⟨g5, h⟩ := of_gd h
      obtain ⟨g6, h⟩ := of_gd h
      refine x_aald hC hb hP lc_10 g5 dX8_isWorthHaving_27 (fun d7 ed7 => ?_)
      have h := of_lt h ed7
      have hd7 : d7 < 13 := by rw [ed7]; exact Nat.lt_of_not_le g6
      obtain ⟨r8, σ9, g10, h⟩ := of_bnd h
      refine x_VI (As := [.ref (E (41 + 5 * d4)), .ref (E (41 + 5 * d7))]) (rest := []) hF hl hP hS (c_X8_isBetter hd4 hd7 g10) (cw_X8_225 hC rfl rfl ⟨Nat.le_of_ble_eq_true rfl, Nat.le_of_ble_eq_true rfl⟩) lc_0 rfl rfl rfl (Nat.le_of_ble_eq_true rfl) dX8_isWorthHaving_28 ⟨Nat.zero_le _, Nat.zero_le _⟩ (fun H locs hP hS => ?_)
      refine lv_if_eq (tgt := 36) hx hb dX8_isWorthHaving_31 (by decide) (fun c11 => ?_) (fun c11 => ?_)
      · have h := of_t h c11
        obtain ⟨x12, ex12⟩ : ∃ y : Int32, y = v2 + 1 := ⟨_, rfl⟩
        have h := of_lt h ex12
        refine lv_iinc (v := x12) (lv' := [(2, .int x12), (0, .ref (E 0)), (1, .int v1)]) hx hb dX8_isWorthHaving_36 hl (k := 2) rfl (by rw [ex12]; rfl) (by decide) rfl (fun ls hl => ?_)
        refine lv_goto (tgt := 7) hx hb dX8_isWorthHaving_39 (by decide) ?_
        exact ih v1 x12 σ9 _ _ _ h hP hS (lv_sub hl [1, 2, 0] rfl)
      · have h := of_f h c11
        refine lv_iconst (v := 0) hx hb dX8_isWorthHaving_34 (by decide) ?_
        exact x_zret hF hP hS rfl h dX8_isWorthHaving_35

def f_X8_isWorthHaving (a1 : Int32) (σ : Sta) : Option (Int32 × Sta) :=
  bnd (f_X8_checkStrategy a1 σ) (fun _ σ2 =>
  f_X8_isWorthHaving_7 FU a1 0 σ2)
set_option maxHeartbeats 4000000 in
set_option maxRecDepth 100000 in
theorem c_X8_isWorthHaving {l : Launch} {D : va_G} {Y : CYs} {E : Nat → Nat} {a1 : Int32} {σ : Sta} {o : Int32 × Sta} (h : f_X8_isWorthHaving a1 σ = some o) : MI l yX8_isWorthHaving (Cond.code yX8_isWorthHaving cX8_isWorthHaving 3 (some .boolean) :: gW) rm_X8_isWorthHaving LC Y D E [.ref (E 0), .int a1] σ o := by
  intro sz
  refine Met_of (Qc := fun sz => QI LC Y D E sz o) (by decide) (Nat.le_of_ble_eq_true rfl) (fun p e s m args below meth c hF hP ls hl => ?_) sz
  have hS : va_S (AF E LC.length s.heap.size) s.heap s.heap [] := va_S.rf
  have hl : lv_has ls 3 [(0, .ref (E 0)), (1, .int a1)] := hl
  show WI p l e rm_X8_isWorthHaving s m args below meth c LC Y D E o s.heap [] (F0 m 0 ls [])
  unfold f_X8_isWorthHaving at h
  obtain ⟨hC, hb, hml, hr, hlk, hD, hSW⟩ := id hF
  have hx := hC.1
  refine lv_aload_n hx hb dX8_isWorthHaving_0 rfl (lv_at hl 0 rfl) ?_
  refine lv_iload_n hx hb dX8_isWorthHaving_1 rfl (lv_at hl 1 rfl) ?_
  obtain ⟨r1, σ2, g3, h⟩ := of_bnd h
  refine x_VV (As := [.int a1]) (rest := []) hF hl hP hS (c_X8_checkStrategy g3) (cw_X8_206 hC rfl rfl ⟨Nat.le_of_ble_eq_true rfl, Nat.le_of_ble_eq_true rfl⟩) lc_0 rfl rfl rfl (Nat.le_of_ble_eq_true rfl) dX8_isWorthHaving_2 ⟨Nat.zero_le _, Nat.zero_le _⟩ (fun H locs hP hS => ?_)
  refine lv_iconst (v := 0) hx hb dX8_isWorthHaving_5 (by decide) ?_
  refine lv_istore_n (lv' := [(2, .int 0), (0, .ref (E 0)), (1, .int a1)]) hx hb dX8_isWorthHaving_6 rfl hl (by decide) rfl (fun ls hl => ?_)
  exact t_X8_isWorthHaving_7  hF FU a1 0 σ2 _ _ _ h hP hS (lv_sub hl [1, 2, 0] rfl)

abbrev rm_X8_reach : Room := { frames := 6, cells := 0, slots := 0, locals := 146 }
def f_X8_reach (a1 : Int32) (a2 : Int32) (σ : Sta) : Option (Int32 × Sta) :=
  bnd (f_X8_checkRange a1 0 30 σ) (fun _ σ2 =>
  bnd (f_X8_checkProgram σ2) (fun _ σ5 =>
  bnd (f_X2_extremeChance a1 a2 σ5) (fun r7 σ8 =>
  some (r7, σ8))))
set_option maxHeartbeats 4000000 in
set_option maxRecDepth 100000 in
theorem c_X8_reach {l : Launch} {D : va_G} {Y : CYs} {E : Nat → Nat} {a1 : Int32} {a2 : Int32} {σ : Sta} {o : Int32 × Sta} (h : f_X8_reach a1 a2 σ = some o) : MI l yX8_reach (Cond.code yX8_reach cX8_reach 3 (some .int) :: gW) rm_X8_reach LC Y D E [.ref (E 0), .int a1, .int a2] σ o := by
  intro sz
  refine Met_of (Qc := fun sz => QI LC Y D E sz o) (by decide) (Nat.le_of_ble_eq_true rfl) (fun p e s m args below meth c hF hP ls hl => ?_) sz
  have hS : va_S (AF E LC.length s.heap.size) s.heap s.heap [] := va_S.rf
  have hl : lv_has ls 3 [(0, .ref (E 0)), (1, .int a1), (2, .int a2)] := hl
  show WI p l e rm_X8_reach s m args below meth c LC Y D E o s.heap [] (F0 m 0 ls [])
  unfold f_X8_reach at h
  obtain ⟨hC, hb, hml, hr, hlk, hD, hSW⟩ := id hF
  have hx := hC.1
  refine lv_aload_n hx hb dX8_reach_0 rfl (lv_at hl 0 rfl) ?_
  refine lv_iload_n hx hb dX8_reach_1 rfl (lv_at hl 1 rfl) ?_
  refine lv_iconst (v := 0) hx hb dX8_reach_2 (by decide) ?_
  refine lv_bipush (v := 30) hx hb dX8_reach_3 (by decide) ?_
  obtain ⟨r1, σ2, g3, h⟩ := of_bnd h
  refine x_VV (As := [.int a1, .int 0, .int 30]) (rest := []) hF hl hP hS (c_X8_checkRange g3) (cw_X8_96 hC rfl rfl ⟨Nat.le_of_ble_eq_true rfl, Nat.le_of_ble_eq_true rfl⟩) lc_0 rfl rfl rfl (Nat.le_of_ble_eq_true rfl) dX8_reach_5 ⟨Nat.zero_le _, Nat.zero_le _⟩ (fun H locs hP hS => ?_)
  refine lv_aload_n hx hb dX8_reach_8 rfl (lv_at hl 0 rfl) ?_
  obtain ⟨r4, σ5, g6, h⟩ := of_bnd h
  refine x_VV (As := []) (rest := []) hF hl hP hS (c_X8_checkProgram g6) (cw_X8_192 hC rfl rfl ⟨Nat.le_of_ble_eq_true rfl, Nat.le_of_ble_eq_true rfl⟩) lc_0 rfl rfl rfl (Nat.le_of_ble_eq_true rfl) dX8_reach_9 ⟨Nat.zero_le _, Nat.zero_le _⟩ (fun H locs hP hS => ?_)
  refine lv_aload_n hx hb dX8_reach_12 rfl (lv_at hl 0 rfl) ?_
  refine gf_X8_57 hC hb hP dX8_reach_13 ?_
  refine lv_iload_n hx hb dX8_reach_16 rfl (lv_at hl 1 rfl) ?_
  refine lv_iload_n hx hb dX8_reach_17 rfl (lv_at hl 2 rfl) ?_
  obtain ⟨r7, σ8, g9, h⟩ := of_bnd h
  refine x_VI (As := [.int a1, .int a2]) (rest := []) hF hl hP hS (c_X2_extremeChance g9) (cw_X8_246 hC rfl rfl ⟨Nat.le_of_ble_eq_true rfl, Nat.le_of_ble_eq_true rfl⟩) lc_6 rfl rfl rfl (Nat.le_of_ble_eq_true rfl) dX8_reach_18 ⟨Nat.zero_le _, Nat.zero_le _⟩ (fun H locs hP hS => ?_)
  exact x_iret hF hP hS h dX8_reach_21
