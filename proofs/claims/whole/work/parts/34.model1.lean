theorem gf_X10_140 {p : Program} {l : Launch} {e : Env} {R : Room} {s : State} {m : MethodId} {args : Array Value} {below : List Frame} {meth : Method} {c : Code} {H : Heap} {locs : List Loc} {cells slots : Nat} {Q : State → Prop} {D : va_G} {Y : CYs} {E : Nat → Nat} {σ : Sta} {cc : ByteArray} {pc : Nat} {ls : Array Slot} {rest : List Value} {X : List Dsc} (hC : Ctx p s m args RX10 D Y) (hb : c.code = cc) (hP : va_P D vwCl (wd Y E σ 0 (LM ++ X)) H) (hdg : decode cc pc = .ok (.getfield 140, 3)) (kk : W p l e R s m args below meth c H locs cells slots Q (F0 m (pc + 3) ls (.int (gI σ 0) :: rest))) : W p l e R s m args below meth c H locs cells slots Q (F0 m pc ls (.ref (E 0) :: rest)) :=
  x_getI hC hb hP inGX10 (lm_0 X) rfl 0 (by decide) rfl (gw_t (tb6 (List.mem_of_getElem? (i := 44) rfl)) rfl) rfl hdg kk
theorem pf_X10_140 {p : Program} {l : Launch} {e : Env} {R : Room} {s : State} {m : MethodId} {args : Array Value} {below : List Frame} {meth : Method} {c : Code} {H : Heap} {locs : List Loc} {cells slots : Nat} {Q : State → Prop} {D : va_G} {Y : CYs} {E : Nat → Nat} {σ : Sta} {cc : ByteArray} {pc : Nat} {ls : Array Slot} {rest : List Value} {X : List Dsc} (hX : Lok (LM ++ X)) {A : Nat → Prop} {H0 : Heap} {x : Int32} (hC : Ctx p s m args RX10 D Y) (hb : c.code = cc) (hP : va_P D vwCl (wd Y E σ 0 (LM ++ X)) H) (hD : ∀ τ, va_D A (wd Y E τ 0 (LM ++ X))) (hS : va_S A H0 H locs) (hdg : decode cc pc = .ok (.putfield 140, 3)) (kk : ∀ (H1 : Heap) (locs1 : List Loc) (τ : Sta), τ = sI σ 0 x → va_P D vwCl (wd Y E τ 0 (LM ++ X)) H1 → va_S A H0 H1 locs1 → W p l e R s m args below meth c H1 locs1 cells slots Q (F0 m (pc + 3) ls rest)) : W p l e R s m args below meth c H locs cells slots Q (F0 m pc ls (.int x :: .ref (E 0) :: rest)) :=
  x_putI hX hC hb hP hD hS inGX10 tyX10 tyX10_ok nmX10 (lm_0 X) rfl 0 (by decide) rfl (gw_t (tb6 (List.mem_of_getElem? (i := 44) rfl)) rfl) rfl rfl rfl rfl rfl hdg kk
theorem gf_X10_13 {p : Program} {l : Launch} {e : Env} {R : Room} {s : State} {m : MethodId} {args : Array Value} {below : List Frame} {meth : Method} {c : Code} {H : Heap} {locs : List Loc} {cells slots : Nat} {Q : State → Prop} {D : va_G} {Y : CYs} {E : Nat → Nat} {σ : Sta} {cc : ByteArray} {pc : Nat} {ls : Array Slot} {rest : List Value} {X : List Dsc} (hC : Ctx p s m args RX10 D Y) (hb : c.code = cc) (hP : va_P D vwCl (wd Y E σ 0 (LM ++ X)) H) (hdg : decode cc pc = .ok (.getfield 13, 3)) (kk : W p l e R s m args below meth c H locs cells slots Q (F0 m (pc + 3) ls (.ref (E 2) :: rest))) : W p l e R s m args below meth c H locs cells slots Q (F0 m pc ls (.ref (E 0) :: rest)) :=
  x_getR hC hb hP inGX10 (lm_0 X) rfl 2 (by decide) rfl (gw_t (tb6 (List.mem_of_getElem? (i := 46) rfl)) rfl) rfl hdg kk
theorem gf_X10_143 {p : Program} {l : Launch} {e : Env} {R : Room} {s : State} {m : MethodId} {args : Array Value} {below : List Frame} {meth : Method} {c : Code} {H : Heap} {locs : List Loc} {cells slots : Nat} {Q : State → Prop} {D : va_G} {Y : CYs} {E : Nat → Nat} {σ : Sta} {cc : ByteArray} {pc : Nat} {ls : Array Slot} {rest : List Value} {X : List Dsc} (hC : Ctx p s m args RX10 D Y) (hb : c.code = cc) (hP : va_P D vwCl (wd Y E σ 0 (LM ++ X)) H) (hdg : decode cc pc = .ok (.getfield 143, 3)) (kk : W p l e R s m args below meth c H locs cells slots Q (F0 m (pc + 3) ls (.int (gI σ 3) :: rest))) : W p l e R s m args below meth c H locs cells slots Q (F0 m pc ls (.ref (E 0) :: rest)) :=
  x_getI hC hb hP inGX10 (lm_0 X) rfl 3 (by decide) rfl (gw_t (tb6 (List.mem_of_getElem? (i := 47) rfl)) rfl) rfl hdg kk
theorem pf_X10_143 {p : Program} {l : Launch} {e : Env} {R : Room} {s : State} {m : MethodId} {args : Array Value} {below : List Frame} {meth : Method} {c : Code} {H : Heap} {locs : List Loc} {cells slots : Nat} {Q : State → Prop} {D : va_G} {Y : CYs} {E : Nat → Nat} {σ : Sta} {cc : ByteArray} {pc : Nat} {ls : Array Slot} {rest : List Value} {X : List Dsc} (hX : Lok (LM ++ X)) {A : Nat → Prop} {H0 : Heap} {x : Int32} (hC : Ctx p s m args RX10 D Y) (hb : c.code = cc) (hP : va_P D vwCl (wd Y E σ 0 (LM ++ X)) H) (hD : ∀ τ, va_D A (wd Y E τ 0 (LM ++ X))) (hS : va_S A H0 H locs) (hdg : decode cc pc = .ok (.putfield 143, 3)) (kk : ∀ (H1 : Heap) (locs1 : List Loc) (τ : Sta), τ = sI σ 3 x → va_P D vwCl (wd Y E τ 0 (LM ++ X)) H1 → va_S A H0 H1 locs1 → W p l e R s m args below meth c H1 locs1 cells slots Q (F0 m (pc + 3) ls rest)) : W p l e R s m args below meth c H locs cells slots Q (F0 m pc ls (.int x :: .ref (E 0) :: rest)) :=
  x_putI hX hC hb hP hD hS inGX10 tyX10 tyX10_ok nmX10 (lm_0 X) rfl 3 (by decide) rfl (gw_t (tb6 (List.mem_of_getElem? (i := 47) rfl)) rfl) rfl rfl rfl rfl rfl hdg kk
theorem cw_X10_150 {R : Room} {p : Program} {s : State} {m : MethodId} {args : Array Value} {D : va_G} {Y : CYs} {rm : Room} (hC : Ctx p s m args RX10 D Y) (hrc : rm.cells = 0) (hrs : rm.slots = 0) (hR : rm.frames + 1 ≤ R.frames ∧ 8 + (3 + 11) + rm.locals ≤ R.locals) : CallW R s args RX10 RX10 150 yX10_four cX10_four 3 none (Cond.code yX10_four cX10_four 3 none :: gW) rm 0 0 1 :=
  cwV 1 hC.2.1 (gi_V (gw_t (tb6 (List.mem_of_getElem? (i := 229) rfl)) rfl) (gw_t (tb6 (List.mem_of_getElem? (i := 231) rfl)) rfl) (gw_s (q := (⟨"MarkovBenchModel", "four", "(I)V"⟩, 57)) (lp4_ (List.mem_of_getElem? (i := 13) rfl))) (gw_t (tb1 (List.mem_of_getElem? (i := 10) rfl)) rfl) (gw_t (tb6 (List.mem_of_getElem? (i := 232) rfl)) rfl)) rfl hrc hrs ⟨rfl, by decide +kernel, by decide +kernel, by decide +kernel⟩ hR
theorem cw_X10_146 {R : Room} {p : Program} {s : State} {m : MethodId} {args : Array Value} {D : va_G} {Y : CYs} {rm : Room} (hC : Ctx p s m args RX10 D Y) (hrc : rm.cells = 0) (hrs : rm.slots = 0) (hR : rm.frames + 1 ≤ R.frames ∧ 8 + (2 + 11) + rm.locals ≤ R.locals) : CallW R s args RX10 RX10 146 yX10_fail cX10_fail 2 (some .int) (Cond.code yX10_fail cX10_fail 2 (some .int) :: gW) rm 0 0 1 :=
  cwV 1 hC.2.1 (gi_V (gw_t (tb6 (List.mem_of_getElem? (i := 225) rfl)) rfl) (gw_t (tb6 (List.mem_of_getElem? (i := 227) rfl)) rfl) (gw_s (q := (⟨"MarkovBenchModel", "fail", "(I)I"⟩, 57)) (lp4_ (List.mem_of_getElem? (i := 12) rfl))) (gw_t (tb1 (List.mem_of_getElem? (i := 10) rfl)) rfl) (gw_t (tb6 (List.mem_of_getElem? (i := 228) rfl)) rfl)) rfl hrc hrs ⟨rfl, by decide +kernel, by decide +kernel, by decide +kernel⟩ hR
theorem cw_X10_154 {R : Room} {p : Program} {s : State} {m : MethodId} {args : Array Value} {D : va_G} {Y : CYs} {rm : Room} (hC : Ctx p s m args RX10 D Y) (hrc : rm.cells = 0) (hrs : rm.slots = 0) (hR : rm.frames + 1 ≤ R.frames ∧ 8 + (6 + 11) + rm.locals ≤ R.locals) : CallB R s args RX10 154 yX10_isIn cX10_isIn 6 (some .boolean) (Cond.code yX10_isIn cX10_isIn 6 (some .boolean) :: gW) rm 0 0 3 ∧ (Cond.static yX10_isIn).before args s = true :=
  ⟨callB_of 3 hC.2.1 (gi_law (gw_t (tb6 (List.mem_of_getElem? (i := 239) rfl)) rfl)) rfl hrc hrs (hC.2.1 (Cond.initialized RX10) (gw_t (tb1 (List.mem_of_getElem? (i := 10) rfl)) rfl)) (hC.2.1 (Cond.methodLink RX10 154 yX10_isIn) (gw_t (tb6 (List.mem_of_getElem? (i := 237) rfl)) rfl)) ⟨by decide +kernel, by decide +kernel, by decide +kernel⟩ hR, hC.2.1 (Cond.static yX10_isIn) (gw_t (tb6 (List.mem_of_getElem? (i := 238) rfl)) rfl)⟩
theorem gf_X10_17 {p : Program} {l : Launch} {e : Env} {R : Room} {s : State} {m : MethodId} {args : Array Value} {below : List Frame} {meth : Method} {c : Code} {H : Heap} {locs : List Loc} {cells slots : Nat} {Q : State → Prop} {D : va_G} {Y : CYs} {E : Nat → Nat} {σ : Sta} {cc : ByteArray} {pc : Nat} {ls : Array Slot} {rest : List Value} {X : List Dsc} (hC : Ctx p s m args RX10 D Y) (hb : c.code = cc) (hP : va_P D vwCl (wd Y E σ 0 (LM ++ X)) H) (hdg : decode cc pc = .ok (.getfield 17, 3)) (kk : W p l e R s m args below meth c H locs cells slots Q (F0 m (pc + 3) ls (.ref (E 3) :: rest))) : W p l e R s m args below meth c H locs cells slots Q (F0 m pc ls (.ref (E 0) :: rest)) :=
  x_getR hC hb hP inGX10 (lm_0 X) rfl 5 (by decide) rfl (gw_t (tb6 (List.mem_of_getElem? (i := 49) rfl)) rfl) rfl hdg kk
theorem gf_X10_166 {p : Program} {l : Launch} {e : Env} {R : Room} {s : State} {m : MethodId} {args : Array Value} {below : List Frame} {meth : Method} {c : Code} {H : Heap} {locs : List Loc} {cells slots : Nat} {Q : State → Prop} {D : va_G} {Y : CYs} {E : Nat → Nat} {σ : Sta} {cc : ByteArray} {pc : Nat} {ls : Array Slot} {rest : List Value} {X : List Dsc} (hC : Ctx p s m args RX10 D Y) (hb : c.code = cc) (hP : va_P D vwCl (wd Y E σ 0 (LM ++ X)) H) (hdg : decode cc pc = .ok (.getfield 166, 3)) (kk : W p l e R s m args below meth c H locs cells slots Q (F0 m (pc + 3) ls (.int (gI σ 4) :: rest))) : W p l e R s m args below meth c H locs cells slots Q (F0 m pc ls (.ref (E 0) :: rest)) :=
  x_getI hC hb hP inGX10 (lm_0 X) rfl 4 (by decide) rfl (gw_t (tb6 (List.mem_of_getElem? (i := 48) rfl)) rfl) rfl hdg kk
theorem gf_X10_20 {p : Program} {l : Launch} {e : Env} {R : Room} {s : State} {m : MethodId} {args : Array Value} {below : List Frame} {meth : Method} {c : Code} {H : Heap} {locs : List Loc} {cells slots : Nat} {Q : State → Prop} {D : va_G} {Y : CYs} {E : Nat → Nat} {σ : Sta} {cc : ByteArray} {pc : Nat} {ls : Array Slot} {rest : List Value} {X : List Dsc} (hC : Ctx p s m args RX10 D Y) (hb : c.code = cc) (hP : va_P D vwCl (wd Y E σ 0 (LM ++ X)) H) (hdg : decode cc pc = .ok (.getfield 20, 3)) (kk : W p l e R s m args below meth c H locs cells slots Q (F0 m (pc + 3) ls (.ref (E 4) :: rest))) : W p l e R s m args below meth c H locs cells slots Q (F0 m pc ls (.ref (E 0) :: rest)) :=
  x_getR hC hb hP inGX10 (lm_0 X) rfl 6 (by decide) rfl (gw_t (tb6 (List.mem_of_getElem? (i := 50) rfl)) rfl) rfl hdg kk
theorem gf_X10_23 {p : Program} {l : Launch} {e : Env} {R : Room} {s : State} {m : MethodId} {args : Array Value} {below : List Frame} {meth : Method} {c : Code} {H : Heap} {locs : List Loc} {cells slots : Nat} {Q : State → Prop} {D : va_G} {Y : CYs} {E : Nat → Nat} {σ : Sta} {cc : ByteArray} {pc : Nat} {ls : Array Slot} {rest : List Value} {X : List Dsc} (hC : Ctx p s m args RX10 D Y) (hb : c.code = cc) (hP : va_P D vwCl (wd Y E σ 0 (LM ++ X)) H) (hdg : decode cc pc = .ok (.getfield 23, 3)) (kk : W p l e R s m args below meth c H locs cells slots Q (F0 m (pc + 3) ls (.ref (E 5) :: rest))) : W p l e R s m args below meth c H locs cells slots Q (F0 m pc ls (.ref (E 0) :: rest)) :=
  x_getR hC hb hP inGX10 (lm_0 X) rfl 7 (by decide) rfl (gw_t (tb6 (List.mem_of_getElem? (i := 51) rfl)) rfl) rfl hdg kk
theorem pf_X10_166 {p : Program} {l : Launch} {e : Env} {R : Room} {s : State} {m : MethodId} {args : Array Value} {below : List Frame} {meth : Method} {c : Code} {H : Heap} {locs : List Loc} {cells slots : Nat} {Q : State → Prop} {D : va_G} {Y : CYs} {E : Nat → Nat} {σ : Sta} {cc : ByteArray} {pc : Nat} {ls : Array Slot} {rest : List Value} {X : List Dsc} (hX : Lok (LM ++ X)) {A : Nat → Prop} {H0 : Heap} {x : Int32} (hC : Ctx p s m args RX10 D Y) (hb : c.code = cc) (hP : va_P D vwCl (wd Y E σ 0 (LM ++ X)) H) (hD : ∀ τ, va_D A (wd Y E τ 0 (LM ++ X))) (hS : va_S A H0 H locs) (hdg : decode cc pc = .ok (.putfield 166, 3)) (kk : ∀ (H1 : Heap) (locs1 : List Loc) (τ : Sta), τ = sI σ 4 x → va_P D vwCl (wd Y E τ 0 (LM ++ X)) H1 → va_S A H0 H1 locs1 → W p l e R s m args below meth c H1 locs1 cells slots Q (F0 m (pc + 3) ls rest)) : W p l e R s m args below meth c H locs cells slots Q (F0 m pc ls (.int x :: .ref (E 0) :: rest)) :=
  x_putI hX hC hb hP hD hS inGX10 tyX10 tyX10_ok nmX10 (lm_0 X) rfl 4 (by decide) rfl (gw_t (tb6 (List.mem_of_getElem? (i := 48) rfl)) rfl) rfl rfl rfl rfl rfl hdg kk
theorem cw_X10_193 {R : Room} {p : Program} {s : State} {m : MethodId} {args : Array Value} {D : va_G} {Y : CYs} {rm : Room} (hC : Ctx p s m args RX10 D Y) (hrc : rm.cells = 0) (hrs : rm.slots = 0) (hR : rm.frames + 1 ≤ R.frames ∧ 8 + (2 + 11) + rm.locals ≤ R.locals) : CallW R s args RX10 RJ0 193 yJ0_indexOf_0f7a4 cJ0_indexOf_0f7a4 2 (some .int) (Cond.code yJ0_indexOf_0f7a4 cJ0_indexOf_0f7a4 2 (some .int) :: gW) rm 0 0 1 :=
  cwV 1 hC.2.1 (gi_V (gw_t (tb7 (List.mem_of_getElem? (i := 36) rfl)) rfl) (gw_t (tb3 (List.mem_of_getElem? (i := 0) rfl)) rfl) (gw_t (tb3 (List.mem_of_getElem? (i := 1) rfl)) rfl) (gw_t (tb1 (List.mem_of_getElem? (i := 11) rfl)) rfl) (gw_t (tb3 (List.mem_of_getElem? (i := 2) rfl)) rfl)) rfl hrc hrs ⟨rfl, by decide +kernel, by decide +kernel, by decide +kernel⟩ hR
theorem cw_X10_172 {R : Room} {p : Program} {s : State} {m : MethodId} {args : Array Value} {D : va_G} {Y : CYs} {rm : Room} (hC : Ctx p s m args RX10 D Y) (hrc : rm.cells = 0) (hrs : rm.slots = 0) (hR : rm.frames + 1 ≤ R.frames ∧ 8 + (5 + 11) + rm.locals ≤ R.locals) : CallW R s args RX10 RX10 172 yX10_token cX10_token 5 none (Cond.code yX10_token cX10_token 5 none :: gW) rm 0 0 3 :=
  cwV 3 hC.2.1 (gi_V (gw_t (tb7 (List.mem_of_getElem? (i := 13) rfl)) rfl) (gw_t (tb7 (List.mem_of_getElem? (i := 15) rfl)) rfl) (gw_s (q := (⟨"MarkovBenchModel", "token", "(IIJ)V"⟩, 57)) (lp5_ (List.mem_of_getElem? (i := 0) rfl))) (gw_t (tb1 (List.mem_of_getElem? (i := 10) rfl)) rfl) (gw_t (tb7 (List.mem_of_getElem? (i := 16) rfl)) rfl)) rfl hrc hrs ⟨rfl, by decide +kernel, by decide +kernel, by decide +kernel⟩ hR
theorem cw_X10_169 {R : Room} {p : Program} {s : State} {m : MethodId} {args : Array Value} {D : va_G} {Y : CYs} {rm : Room} (hC : Ctx p s m args RX10 D Y) (hrc : rm.cells = 0) (hrs : rm.slots = 0) (hR : rm.frames + 1 ≤ R.frames ∧ 8 + (2 + 11) + rm.locals ≤ R.locals) : CallW R s args RX10 RX10 169 yX10_byteAt cX10_byteAt 2 (some .int) (Cond.code yX10_byteAt cX10_byteAt 2 (some .int) :: gW) rm 0 0 1 :=
  cwV 1 hC.2.1 (gi_V (gw_t (tb7 (List.mem_of_getElem? (i := 9) rfl)) rfl) (gw_t (tb7 (List.mem_of_getElem? (i := 11) rfl)) rfl) (gw_s (q := (⟨"MarkovBenchModel", "byteAt", "(I)I"⟩, 57)) (lp4_ (List.mem_of_getElem? (i := 15) rfl))) (gw_t (tb1 (List.mem_of_getElem? (i := 10) rfl)) rfl) (gw_t (tb7 (List.mem_of_getElem? (i := 12) rfl)) rfl)) rfl hrc hrs ⟨rfl, by decide +kernel, by decide +kernel, by decide +kernel⟩ hR
theorem cw_X10_176 {R : Room} {p : Program} {s : State} {m : MethodId} {args : Array Value} {D : va_G} {Y : CYs} {rm : Room} (hC : Ctx p s m args RX10 D Y) (hrc : rm.cells = 0) (hrs : rm.slots = 0) (hR : rm.frames + 1 ≤ R.frames ∧ 8 + (1 + 11) + rm.locals ≤ R.locals) : CallB R s args RX10 176 yX10_isLetter cX10_isLetter 1 (some .boolean) (Cond.code yX10_isLetter cX10_isLetter 1 (some .boolean) :: gW) rm 0 0 1 ∧ (Cond.static yX10_isLetter).before args s = true :=
  ⟨callB_of 1 hC.2.1 (gi_law (gw_t (tb7 (List.mem_of_getElem? (i := 19) rfl)) rfl)) rfl hrc hrs (hC.2.1 (Cond.initialized RX10) (gw_t (tb1 (List.mem_of_getElem? (i := 10) rfl)) rfl)) (hC.2.1 (Cond.methodLink RX10 176 yX10_isLetter) (gw_t (tb7 (List.mem_of_getElem? (i := 17) rfl)) rfl)) ⟨by decide +kernel, by decide +kernel, by decide +kernel⟩ hR, hC.2.1 (Cond.static yX10_isLetter) (gw_t (tb7 (List.mem_of_getElem? (i := 18) rfl)) rfl)⟩
theorem cw_X10_180 {R : Room} {p : Program} {s : State} {m : MethodId} {args : Array Value} {D : va_G} {Y : CYs} {rm : Room} (hC : Ctx p s m args RX10 D Y) (hrc : rm.cells = 0) (hrs : rm.slots = 0) (hR : rm.frames + 1 ≤ R.frames ∧ 8 + (1 + 11) + rm.locals ≤ R.locals) : CallB R s args RX10 180 yX10_isDigit cX10_isDigit 1 (some .boolean) (Cond.code yX10_isDigit cX10_isDigit 1 (some .boolean) :: gW) rm 0 0 1 ∧ (Cond.static yX10_isDigit).before args s = true :=
  ⟨callB_of 1 hC.2.1 (gi_law (gw_t (tb7 (List.mem_of_getElem? (i := 24) rfl)) rfl)) rfl hrc hrs (hC.2.1 (Cond.initialized RX10) (gw_t (tb1 (List.mem_of_getElem? (i := 10) rfl)) rfl)) (hC.2.1 (Cond.methodLink RX10 180 yX10_isDigit) (gw_t (tb7 (List.mem_of_getElem? (i := 22) rfl)) rfl)) ⟨by decide +kernel, by decide +kernel, by decide +kernel⟩ hR, hC.2.1 (Cond.static yX10_isDigit) (gw_t (tb7 (List.mem_of_getElem? (i := 23) rfl)) rfl)⟩
theorem cw_X10_188 {R : Room} {p : Program} {s : State} {m : MethodId} {args : Array Value} {D : va_G} {Y : CYs} {rm : Room} (hC : Ctx p s m args RX10 D Y) (hrc : rm.cells = 0) (hrs : rm.slots = 0) (hR : rm.frames + 1 ≤ R.frames ∧ 8 + (6 + 11) + rm.locals ≤ R.locals) : CallW R s args RX10 RX10 188 yX10_symbol cX10_symbol 6 (some .int) (Cond.code yX10_symbol cX10_symbol 6 (some .int) :: gW) rm 0 0 1 :=
  cwV 1 hC.2.1 (gi_V (gw_t (tb7 (List.mem_of_getElem? (i := 31) rfl)) rfl) (gw_t (tb7 (List.mem_of_getElem? (i := 33) rfl)) rfl) (gw_s (q := (⟨"MarkovBenchModel", "symbol", "(I)I"⟩, 57)) (lp5_ (List.mem_of_getElem? (i := 1) rfl))) (gw_t (tb1 (List.mem_of_getElem? (i := 10) rfl)) rfl) (gw_t (tb7 (List.mem_of_getElem? (i := 34) rfl)) rfl)) rfl hrc hrs ⟨rfl, by decide +kernel, by decide +kernel, by decide +kernel⟩ hR
theorem gf_X10_9 {p : Program} {l : Launch} {e : Env} {R : Room} {s : State} {m : MethodId} {args : Array Value} {below : List Frame} {meth : Method} {c : Code} {H : Heap} {locs : List Loc} {cells slots : Nat} {Q : State → Prop} {D : va_G} {Y : CYs} {E : Nat → Nat} {σ : Sta} {cc : ByteArray} {pc : Nat} {ls : Array Slot} {rest : List Value} {X : List Dsc} (hC : Ctx p s m args RX10 D Y) (hb : c.code = cc) (hP : va_P D vwCl (wd Y E σ 0 (LM ++ X)) H) (hdg : decode cc pc = .ok (.getfield 9, 3)) (kk : W p l e R s m args below meth c H locs cells slots Q (F0 m (pc + 3) ls (.ref (E 1) :: rest))) : W p l e R s m args below meth c H locs cells slots Q (F0 m pc ls (.ref (E 0) :: rest)) :=
  x_getR hC hb hP inGX10 (lm_0 X) rfl 1 (by decide) rfl (gw_t (tb6 (List.mem_of_getElem? (i := 45) rfl)) rfl) rfl hdg kk
theorem cw_X10_183 {R : Room} {p : Program} {s : State} {m : MethodId} {args : Array Value} {D : va_G} {Y : CYs} {rm : Room} (hC : Ctx p s m args RX10 D Y) (hrc : rm.cells = 0) (hrs : rm.slots = 0) (hR : rm.frames + 1 ≤ R.frames ∧ 8 + (5 + 11) + rm.locals ≤ R.locals) : CallB R s args RX10 183 yX10_indexOf cX10_indexOf 5 (some .int) (Cond.code yX10_indexOf cX10_indexOf 5 (some .int) :: gW) rm 0 0 3 ∧ (Cond.static yX10_indexOf).before args s = true :=
  ⟨callB_of 3 hC.2.1 (gi_law (gw_t (tb7 (List.mem_of_getElem? (i := 29) rfl)) rfl)) rfl hrc hrs (hC.2.1 (Cond.initialized RX10) (gw_t (tb1 (List.mem_of_getElem? (i := 10) rfl)) rfl)) (hC.2.1 (Cond.methodLink RX10 183 yX10_indexOf) (gw_t (tb7 (List.mem_of_getElem? (i := 27) rfl)) rfl)) ⟨by decide +kernel, by decide +kernel, by decide +kernel⟩ hR, hC.2.1 (Cond.static yX10_indexOf) (gw_t (tb7 (List.mem_of_getElem? (i := 28) rfl)) rfl)⟩
theorem gf_X10_100 {p : Program} {l : Launch} {e : Env} {R : Room} {s : State} {m : MethodId} {args : Array Value} {below : List Frame} {meth : Method} {c : Code} {H : Heap} {locs : List Loc} {cells slots : Nat} {Q : State → Prop} {D : va_G} {Y : CYs} {E : Nat → Nat} {σ : Sta} {cc : ByteArray} {pc : Nat} {ls : Array Slot} {rest : List Value} {X : List Dsc} (hC : Ctx p s m args RX10 D Y) (hb : c.code = cc) (hP : va_P D vwCl (wd Y E σ 0 (LM ++ X)) H) (hdg : decode cc pc = .ok (.getfield 100, 3)) (kk : W p l e R s m args below meth c H locs cells slots Q (F0 m (pc + 3) ls (.ref (E 29) :: rest))) : W p l e R s m args below meth c H locs cells slots Q (F0 m pc ls (.ref (E 0) :: rest)) :=
  x_getR hC hb hP inGX10 (lm_0 X) rfl 46 (by decide) rfl (gw_t (tb6 (List.mem_of_getElem? (i := 90) rfl)) rfl) rfl hdg kk
theorem gf_X10_125 {p : Program} {l : Launch} {e : Env} {R : Room} {s : State} {m : MethodId} {args : Array Value} {below : List Frame} {meth : Method} {c : Code} {H : Heap} {locs : List Loc} {cells slots : Nat} {Q : State → Prop} {D : va_G} {Y : CYs} {E : Nat → Nat} {σ : Sta} {cc : ByteArray} {pc : Nat} {ls : Array Slot} {rest : List Value} {X : List Dsc} (hC : Ctx p s m args RX10 D Y) (hb : c.code = cc) (hP : va_P D vwCl (wd Y E σ 0 (LM ++ X)) H) (hdg : decode cc pc = .ok (.getfield 125, 3)) (kk : W p l e R s m args below meth c H locs cells slots Q (F0 m (pc + 3) ls (.ref (E 37) :: rest))) : W p l e R s m args below meth c H locs cells slots Q (F0 m pc ls (.ref (E 0) :: rest)) :=
  x_getR hC hb hP inGX10 (lm_0 X) rfl 56 (by decide) rfl (gw_t (tb6 (List.mem_of_getElem? (i := 100) rfl)) rfl) rfl hdg kk
theorem pf_X10_195 {p : Program} {l : Launch} {e : Env} {R : Room} {s : State} {m : MethodId} {args : Array Value} {below : List Frame} {meth : Method} {c : Code} {H : Heap} {locs : List Loc} {cells slots : Nat} {Q : State → Prop} {D : va_G} {Y : CYs} {E : Nat → Nat} {σ : Sta} {cc : ByteArray} {pc : Nat} {ls : Array Slot} {rest : List Value} {X : List Dsc} (hX : Lok (LM ++ X)) {A : Nat → Prop} {H0 : Heap} {x : Int32} (hC : Ctx p s m args RX10 D Y) (hb : c.code = cc) (hP : va_P D vwCl (wd Y E σ 0 (LM ++ X)) H) (hD : ∀ τ, va_D A (wd Y E τ 0 (LM ++ X))) (hS : va_S A H0 H locs) (hdg : decode cc pc = .ok (.putfield 195, 3)) (kk : ∀ (H1 : Heap) (locs1 : List Loc) (τ : Sta), τ = sI σ 8 x → va_P D vwCl (wd Y E τ 0 (LM ++ X)) H1 → va_S A H0 H1 locs1 → W p l e R s m args below meth c H1 locs1 cells slots Q (F0 m (pc + 3) ls rest)) : W p l e R s m args below meth c H locs cells slots Q (F0 m pc ls (.int x :: .ref (E 0) :: rest)) :=
  x_putI hX hC hb hP hD hS inGX10 tyX10 tyX10_ok nmX10 (lm_0 X) rfl 8 (by decide) rfl (gw_t (tb6 (List.mem_of_getElem? (i := 52) rfl)) rfl) rfl rfl rfl rfl rfl hdg kk
theorem pf_X10_198 {p : Program} {l : Launch} {e : Env} {R : Room} {s : State} {m : MethodId} {args : Array Value} {below : List Frame} {meth : Method} {c : Code} {H : Heap} {locs : List Loc} {cells slots : Nat} {Q : State → Prop} {D : va_G} {Y : CYs} {E : Nat → Nat} {σ : Sta} {cc : ByteArray} {pc : Nat} {ls : Array Slot} {rest : List Value} {X : List Dsc} (hX : Lok (LM ++ X)) {A : Nat → Prop} {H0 : Heap} {x : Int32} (hC : Ctx p s m args RX10 D Y) (hb : c.code = cc) (hP : va_P D vwCl (wd Y E σ 0 (LM ++ X)) H) (hD : ∀ τ, va_D A (wd Y E τ 0 (LM ++ X))) (hS : va_S A H0 H locs) (hdg : decode cc pc = .ok (.putfield 198, 3)) (kk : ∀ (H1 : Heap) (locs1 : List Loc) (τ : Sta), τ = sI σ 10 x → va_P D vwCl (wd Y E τ 0 (LM ++ X)) H1 → va_S A H0 H1 locs1 → W p l e R s m args below meth c H1 locs1 cells slots Q (F0 m (pc + 3) ls rest)) : W p l e R s m args below meth c H locs cells slots Q (F0 m pc ls (.int x :: .ref (E 0) :: rest)) :=
  x_putI hX hC hb hP hD hS inGX10 tyX10 tyX10_ok nmX10 (lm_0 X) rfl 10 (by decide) rfl (gw_t (tb6 (List.mem_of_getElem? (i := 54) rfl)) rfl) rfl rfl rfl rfl rfl hdg kk
theorem pf_X10_201 {p : Program} {l : Launch} {e : Env} {R : Room} {s : State} {m : MethodId} {args : Array Value} {below : List Frame} {meth : Method} {c : Code} {H : Heap} {locs : List Loc} {cells slots : Nat} {Q : State → Prop} {D : va_G} {Y : CYs} {E : Nat → Nat} {σ : Sta} {cc : ByteArray} {pc : Nat} {ls : Array Slot} {rest : List Value} {X : List Dsc} (hX : Lok (LM ++ X)) {A : Nat → Prop} {H0 : Heap} {x : Int32} (hC : Ctx p s m args RX10 D Y) (hb : c.code = cc) (hP : va_P D vwCl (wd Y E σ 0 (LM ++ X)) H) (hD : ∀ τ, va_D A (wd Y E τ 0 (LM ++ X))) (hS : va_S A H0 H locs) (hdg : decode cc pc = .ok (.putfield 201, 3)) (kk : ∀ (H1 : Heap) (locs1 : List Loc) (τ : Sta), τ = sI σ 15 x → va_P D vwCl (wd Y E τ 0 (LM ++ X)) H1 → va_S A H0 H1 locs1 → W p l e R s m args below meth c H1 locs1 cells slots Q (F0 m (pc + 3) ls rest)) : W p l e R s m args below meth c H locs cells slots Q (F0 m pc ls (.int x :: .ref (E 0) :: rest)) :=
  x_putI hX hC hb hP hD hS inGX10 tyX10 tyX10_ok nmX10 (lm_0 X) rfl 15 (by decide) rfl (gw_t (tb6 (List.mem_of_getElem? (i := 59) rfl)) rfl) rfl rfl rfl rfl rfl hdg kk
theorem pf_X10_204 {p : Program} {l : Launch} {e : Env} {R : Room} {s : State} {m : MethodId} {args : Array Value} {below : List Frame} {meth : Method} {c : Code} {H : Heap} {locs : List Loc} {cells slots : Nat} {Q : State → Prop} {D : va_G} {Y : CYs} {E : Nat → Nat} {σ : Sta} {cc : ByteArray} {pc : Nat} {ls : Array Slot} {rest : List Value} {X : List Dsc} (hX : Lok (LM ++ X)) {A : Nat → Prop} {H0 : Heap} {x : Int32} (hC : Ctx p s m args RX10 D Y) (hb : c.code = cc) (hP : va_P D vwCl (wd Y E σ 0 (LM ++ X)) H) (hD : ∀ τ, va_D A (wd Y E τ 0 (LM ++ X))) (hS : va_S A H0 H locs) (hdg : decode cc pc = .ok (.putfield 204, 3)) (kk : ∀ (H1 : Heap) (locs1 : List Loc) (τ : Sta), τ = sI σ 18 x → va_P D vwCl (wd Y E τ 0 (LM ++ X)) H1 → va_S A H0 H1 locs1 → W p l e R s m args below meth c H1 locs1 cells slots Q (F0 m (pc + 3) ls rest)) : W p l e R s m args below meth c H locs cells slots Q (F0 m pc ls (.int x :: .ref (E 0) :: rest)) :=
  x_putI hX hC hb hP hD hS inGX10 tyX10 tyX10_ok nmX10 (lm_0 X) rfl 18 (by decide) rfl (gw_t (tb6 (List.mem_of_getElem? (i := 62) rfl)) rfl) rfl rfl rfl rfl rfl hdg kk
theorem pf_X10_207 {p : Program} {l : Launch} {e : Env} {R : Room} {s : State} {m : MethodId} {args : Array Value} {below : List Frame} {meth : Method} {c : Code} {H : Heap} {locs : List Loc} {cells slots : Nat} {Q : State → Prop} {D : va_G} {Y : CYs} {E : Nat → Nat} {σ : Sta} {cc : ByteArray} {pc : Nat} {ls : Array Slot} {rest : List Value} {X : List Dsc} (hX : Lok (LM ++ X)) {A : Nat → Prop} {H0 : Heap} {x : Int32} (hC : Ctx p s m args RX10 D Y) (hb : c.code = cc) (hP : va_P D vwCl (wd Y E σ 0 (LM ++ X)) H) (hD : ∀ τ, va_D A (wd Y E τ 0 (LM ++ X))) (hS : va_S A H0 H locs) (hdg : decode cc pc = .ok (.putfield 207, 3)) (kk : ∀ (H1 : Heap) (locs1 : List Loc) (τ : Sta), τ = sI σ 19 x → va_P D vwCl (wd Y E τ 0 (LM ++ X)) H1 → va_S A H0 H1 locs1 → W p l e R s m args below meth c H1 locs1 cells slots Q (F0 m (pc + 3) ls rest)) : W p l e R s m args below meth c H locs cells slots Q (F0 m pc ls (.int x :: .ref (E 0) :: rest)) :=
  x_putI hX hC hb hP hD hS inGX10 tyX10 tyX10_ok nmX10 (lm_0 X) rfl 19 (by decide) rfl (gw_t (tb6 (List.mem_of_getElem? (i := 63) rfl)) rfl) rfl rfl rfl rfl rfl hdg kk
theorem pf_X10_210 {p : Program} {l : Launch} {e : Env} {R : Room} {s : State} {m : MethodId} {args : Array Value} {below : List Frame} {meth : Method} {c : Code} {H : Heap} {locs : List Loc} {cells slots : Nat} {Q : State → Prop} {D : va_G} {Y : CYs} {E : Nat → Nat} {σ : Sta} {cc : ByteArray} {pc : Nat} {ls : Array Slot} {rest : List Value} {X : List Dsc} (hX : Lok (LM ++ X)) {A : Nat → Prop} {H0 : Heap} {x : Int32} (hC : Ctx p s m args RX10 D Y) (hb : c.code = cc) (hP : va_P D vwCl (wd Y E σ 0 (LM ++ X)) H) (hD : ∀ τ, va_D A (wd Y E τ 0 (LM ++ X))) (hS : va_S A H0 H locs) (hdg : decode cc pc = .ok (.putfield 210, 3)) (kk : ∀ (H1 : Heap) (locs1 : List Loc) (τ : Sta), τ = sI σ 26 x → va_P D vwCl (wd Y E τ 0 (LM ++ X)) H1 → va_S A H0 H1 locs1 → W p l e R s m args below meth c H1 locs1 cells slots Q (F0 m (pc + 3) ls rest)) : W p l e R s m args below meth c H locs cells slots Q (F0 m pc ls (.int x :: .ref (E 0) :: rest)) :=
  x_putI hX hC hb hP hD hS inGX10 tyX10 tyX10_ok nmX10 (lm_0 X) rfl 26 (by decide) rfl (gw_t (tb6 (List.mem_of_getElem? (i := 70) rfl)) rfl) rfl rfl rfl rfl rfl hdg kk
theorem pf_X10_213 {p : Program} {l : Launch} {e : Env} {R : Room} {s : State} {m : MethodId} {args : Array Value} {below : List Frame} {meth : Method} {c : Code} {H : Heap} {locs : List Loc} {cells slots : Nat} {Q : State → Prop} {D : va_G} {Y : CYs} {E : Nat → Nat} {σ : Sta} {cc : ByteArray} {pc : Nat} {ls : Array Slot} {rest : List Value} {X : List Dsc} (hX : Lok (LM ++ X)) {A : Nat → Prop} {H0 : Heap} {x : Int32} (hC : Ctx p s m args RX10 D Y) (hb : c.code = cc) (hP : va_P D vwCl (wd Y E σ 0 (LM ++ X)) H) (hD : ∀ τ, va_D A (wd Y E τ 0 (LM ++ X))) (hS : va_S A H0 H locs) (hdg : decode cc pc = .ok (.putfield 213, 3)) (kk : ∀ (H1 : Heap) (locs1 : List Loc) (τ : Sta), τ = sI σ 37 x → va_P D vwCl (wd Y E τ 0 (LM ++ X)) H1 → va_S A H0 H1 locs1 → W p l e R s m args below meth c H1 locs1 cells slots Q (F0 m (pc + 3) ls rest)) : W p l e R s m args below meth c H locs cells slots Q (F0 m pc ls (.int x :: .ref (E 0) :: rest)) :=
  x_putI hX hC hb hP hD hS inGX10 tyX10 tyX10_ok nmX10 (lm_0 X) rfl 37 (by decide) rfl (gw_t (tb6 (List.mem_of_getElem? (i := 81) rfl)) rfl) rfl rfl rfl rfl rfl hdg kk
theorem pf_X10_216 {p : Program} {l : Launch} {e : Env} {R : Room} {s : State} {m : MethodId} {args : Array Value} {below : List Frame} {meth : Method} {c : Code} {H : Heap} {locs : List Loc} {cells slots : Nat} {Q : State → Prop} {D : va_G} {Y : CYs} {E : Nat → Nat} {σ : Sta} {cc : ByteArray} {pc : Nat} {ls : Array Slot} {rest : List Value} {X : List Dsc} (hX : Lok (LM ++ X)) {A : Nat → Prop} {H0 : Heap} {x : Int32} (hC : Ctx p s m args RX10 D Y) (hb : c.code = cc) (hP : va_P D vwCl (wd Y E σ 0 (LM ++ X)) H) (hD : ∀ τ, va_D A (wd Y E τ 0 (LM ++ X))) (hS : va_S A H0 H locs) (hdg : decode cc pc = .ok (.putfield 216, 3)) (kk : ∀ (H1 : Heap) (locs1 : List Loc) (τ : Sta), τ = sI σ 47 x → va_P D vwCl (wd Y E τ 0 (LM ++ X)) H1 → va_S A H0 H1 locs1 → W p l e R s m args below meth c H1 locs1 cells slots Q (F0 m (pc + 3) ls rest)) : W p l e R s m args below meth c H locs cells slots Q (F0 m pc ls (.int x :: .ref (E 0) :: rest)) :=
  x_putI hX hC hb hP hD hS inGX10 tyX10 tyX10_ok nmX10 (lm_0 X) rfl 47 (by decide) rfl (gw_t (tb6 (List.mem_of_getElem? (i := 91) rfl)) rfl) rfl rfl rfl rfl rfl hdg kk
theorem gf_X10_219 {p : Program} {l : Launch} {e : Env} {R : Room} {s : State} {m : MethodId} {args : Array Value} {below : List Frame} {meth : Method} {c : Code} {H : Heap} {locs : List Loc} {cells slots : Nat} {Q : State → Prop} {D : va_G} {Y : CYs} {E : Nat → Nat} {σ : Sta} {cc : ByteArray} {pc : Nat} {ls : Array Slot} {rest : List Value} {X : List Dsc} (hC : Ctx p s m args RX10 D Y) (hb : c.code = cc) (hP : va_P D vwCl (wd Y E σ 0 (LM ++ X)) H) (hdg : decode cc pc = .ok (.getfield 219, 3)) (kk : W p l e R s m args below meth c H locs cells slots Q (F0 m (pc + 3) ls (.int (gI σ 29) :: rest))) : W p l e R s m args below meth c H locs cells slots Q (F0 m pc ls (.ref (E 0) :: rest)) :=
  x_getI hC hb hP inGX10 (lm_0 X) rfl 29 (by decide) rfl (gw_t (tb6 (List.mem_of_getElem? (i := 73) rfl)) rfl) rfl hdg kk
abbrev rm_X10_thrown : Room := { frames := 0, cells := 0, slots := 0, locals := 0 }
def f_X10_thrown (σ : Sta) : Option (Int32 × Sta) :=
  some (gI σ 0, σ)
set_option maxHeartbeats 4000000 in
set_option maxRecDepth 100000 in
theorem c_X10_thrown {l : Launch} {D : va_G} {Y : CYs} {E : Nat → Nat} {X : List Dsc} (hX : Lok (LM ++ X)) {σ : Sta} {o : Int32 × Sta} (h : f_X10_thrown σ = some o) : MI l yX10_thrown (Cond.code yX10_thrown cX10_thrown 1 (some .int) :: gW) rm_X10_thrown (LM ++ X) Y D E [.ref (E 0)] σ o := by
  intro sz
  refine Met_of (Qc := fun sz => QI (LM ++ X) Y D E sz o) (by decide) (Nat.le_of_ble_eq_true rfl) (fun p e s m args below meth c hF hP ls hl => ?_) sz
  have hS : va_S (AF E (LM ++ X).length s.heap.size) s.heap s.heap [] := va_S.rf
  have hl : lv_has ls 1 [(0, .ref (E 0))] := hl
  show WI p l e rm_X10_thrown s m args below meth c (LM ++ X) Y D E o s.heap [] (F0 m 0 ls [])
  unfold f_X10_thrown at h
  obtain ⟨hC, hb, hml, hr, hlk, hD, hSW⟩ := id hF
  have hx := hC.1
  refine lv_aload_n hx hb dX10_thrown_0 rfl (lv_at hl 0 rfl) ?_
  refine gf_X10_140 hC hb hP dX10_thrown_1 ?_
  exact x_iret hF hP hS h dX10_thrown_4

abbrev rm_X10_fail : Room := { frames := 0, cells := 0, slots := 0, locals := 0 }
def f_X10_fail (a1 : Int32) (σ : Sta) : Option (Int32 × Sta) :=
  lt (sI σ 0 a1) (fun σ1 =>
  some (0, σ1))
set_option maxHeartbeats 4000000 in
set_option maxRecDepth 100000 in
theorem c_X10_fail {l : Launch} {D : va_G} {Y : CYs} {E : Nat → Nat} {X : List Dsc} (hX : Lok (LM ++ X)) {a1 : Int32} {σ : Sta} {o : Int32 × Sta} (h : f_X10_fail a1 σ = some o) : MI l yX10_fail (Cond.code yX10_fail cX10_fail 2 (some .int) :: gW) rm_X10_fail (LM ++ X) Y D E [.ref (E 0), .int a1] σ o := by
  intro sz
  refine Met_of (Qc := fun sz => QI (LM ++ X) Y D E sz o) (by decide) (Nat.le_of_ble_eq_true rfl) (fun p e s m args below meth c hF hP ls hl => ?_) sz
  have hS : va_S (AF E (LM ++ X).length s.heap.size) s.heap s.heap [] := va_S.rf
  have hl : lv_has ls 2 [(0, .ref (E 0)), (1, .int a1)] := hl
  show WI p l e rm_X10_fail s m args below meth c (LM ++ X) Y D E o s.heap [] (F0 m 0 ls [])
  unfold f_X10_fail at h
  obtain ⟨hC, hb, hml, hr, hlk, hD, hSW⟩ := id hF
  have hx := hC.1
  refine lv_aload_n hx hb dX10_fail_0 rfl (lv_at hl 0 rfl) ?_
  refine lv_iload_n hx hb dX10_fail_1 rfl (lv_at hl 1 rfl) ?_
  refine pf_X10_140 hX hC hb hP hD hS dX10_fail_2 (fun H locs σ1 eσ1 hP hS => ?_)
  have h := of_lt h eσ1
  refine lv_iconst (v := 0) hx hb dX10_fail_5 (by decide) ?_
  exact x_iret hF hP hS h dX10_fail_6

abbrev rm_X10_isIn : Room := { frames := 0, cells := 0, slots := 0, locals := 0 }
def f_X10_isIn_18 (s0 : Int32) (σ : Sta) : Option (Int32 × Sta) :=
  if ¬ (s0 = 0 ∨ s0 = 1) then none else (
  some (s0, σ))
set_option maxHeartbeats 4000000 in
set_option maxRecDepth 100000 in
theorem t_X10_isIn_18 {l : Launch} {D : va_G} {Y : CYs} {E : Nat → Nat} {X : List Dsc} (hX : Lok (LM ++ X)) {p : Program} {e : Env} {s : State} {m : MethodId} {args : Array Value} {below : List Frame} {meth : Method} {c : Code} (hF : Fr p s m args meth c RX10 cX10_isIn 6 (some .boolean) D Y E (LM ++ X)) {o : Int32 × Sta} : ∀ (s0 : Int32) (σ : Sta) (H : Heap) (locs : List Loc) (ls : Array Slot), f_X10_isIn_18 s0 σ = some o → va_P D vwCl (wd Y E σ 0 (LM ++ X)) H → va_S (AF E (LM ++ X).length s.heap.size) s.heap H locs → lv_has ls 6 [] → WI p l e rm_X10_isIn s m args below meth c (LM ++ X) Y D E o H locs (F0 m 18 ls [.int s0]) := by
  intro s0 σ H locs ls h hP hS hl
  unfold f_X10_isIn_18 at h
  obtain ⟨hC, hb, hml, hr, hlk, hD, hSW⟩ := id hF
  have hx := hC.1
  obtain ⟨g1, h⟩ := of_gd h
  exact x_zret hF hP hS (zb g1) h dX10_isIn_18

def f_X10_isIn_17 (σ : Sta) : Option (Int32 × Sta) :=
  f_X10_isIn_18 0 σ
set_option maxHeartbeats 4000000 in
set_option maxRecDepth 100000 in
theorem t_X10_isIn_17 {l : Launch} {D : va_G} {Y : CYs} {E : Nat → Nat} {X : List Dsc} (hX : Lok (LM ++ X)) {p : Program} {e : Env} {s : State} {m : MethodId} {args : Array Value} {below : List Frame} {meth : Method} {c : Code} (hF : Fr p s m args meth c RX10 cX10_isIn 6 (some .boolean) D Y E (LM ++ X)) {o : Int32 × Sta} : ∀ (σ : Sta) (H : Heap) (locs : List Loc) (ls : Array Slot), f_X10_isIn_17 σ = some o → va_P D vwCl (wd Y E σ 0 (LM ++ X)) H → va_S (AF E (LM ++ X).length s.heap.size) s.heap H locs → lv_has ls 6 [] → WI p l e rm_X10_isIn s m args below meth c (LM ++ X) Y D E o H locs (F0 m 17 ls []) := by
  intro σ H locs ls h hP hS hl
  unfold f_X10_isIn_17 at h
  obtain ⟨hC, hb, hml, hr, hlk, hD, hSW⟩ := id hF
  have hx := hC.1
  refine lv_iconst (v := 0) hx hb dX10_isIn_17 (by decide) ?_
  exact t_X10_isIn_18 hX  hF 0 σ _ _ _ h hP hS (lv_sub hl [] rfl)

def f_X10_isIn (a0 : Int64) (a2 : Int64) (a4 : Int64) (σ : Sta) : Option (Int32 × Sta) :=
  if lg_cmp a0 a2 < 0 then
    f_X10_isIn_17 σ
  else
    if 0 < lg_cmp a0 a4 then
      f_X10_isIn_17 σ
    else
      f_X10_isIn_18 1 σ
set_option maxHeartbeats 4000000 in
set_option maxRecDepth 100000 in
theorem c_X10_isIn {l : Launch} {D : va_G} {Y : CYs} {E : Nat → Nat} {X : List Dsc} (hX : Lok (LM ++ X)) {a0 : Int64} {a2 : Int64} {a4 : Int64} {σ : Sta} {o : Int32 × Sta} (h : f_X10_isIn a0 a2 a4 σ = some o) : MI l yX10_isIn (Cond.code yX10_isIn cX10_isIn 6 (some .boolean) :: gW) rm_X10_isIn (LM ++ X) Y D E [.long a0, .long a2, .long a4] σ o := by
  intro sz
  refine Met_of (Qc := fun sz => QI (LM ++ X) Y D E sz o) (by decide) (Nat.le_of_ble_eq_true rfl) (fun p e s m args below meth c hF hP ls hl => ?_) sz
  have hS : va_S (AF E (LM ++ X).length s.heap.size) s.heap s.heap [] := va_S.rf
  have hl : lv_has ls 6 [(0, .long a0), (2, .long a2), (4, .long a4)] := hl
  show WI p l e rm_X10_isIn s m args below meth c (LM ++ X) Y D E o s.heap [] (F0 m 0 ls [])
  unfold f_X10_isIn at h
  obtain ⟨hC, hb, hml, hr, hlk, hD, hSW⟩ := id hF
  have hx := hC.1
  refine lv_lload_n hx hb dX10_isIn_0 rfl (lv_at hl 0 rfl) ?_
  refine lv_lload_n hx hb dX10_isIn_1 rfl (lv_at hl 1 rfl) ?_
  refine W.lcmp hx hb dX10_isIn_2 ?_
  refine lv_if_lt (tgt := 17) hx hb dX10_isIn_3 (by decide) (fun c1 => ?_) (fun c1 => ?_)
  · have h := of_t h c1
    exact t_X10_isIn_17 hX  hF σ _ _ _ h hP hS (lv_sub hl [] rfl)
  · have h := of_f h c1
    refine lv_lload_n hx hb dX10_isIn_6 rfl (lv_at hl 0 rfl) ?_
    refine lv_lload hx hb dX10_isIn_7 (lv_at hl 2 rfl) ?_
    refine W.lcmp hx hb dX10_isIn_9 ?_
    refine lv_if_gt (tgt := 17) hx hb dX10_isIn_10 (by decide) (fun c2 => ?_) (fun c2 => ?_)
    · have h := of_t h c2
      exact t_X10_isIn_17 hX  hF σ _ _ _ h hP hS (lv_sub hl [] rfl)
    · have h := of_f h c2
      refine lv_iconst (v := 1) hx hb dX10_isIn_13 (by decide) ?_
      refine lv_goto (tgt := 18) hx hb dX10_isIn_14 (by decide) ?_
      exact t_X10_isIn_18 hX  hF 1 σ _ _ _ h hP hS (lv_sub hl [] rfl)

abbrev rm_X10_indexOf : Room := { frames := 0, cells := 0, slots := 0, locals := 0 }
def f_X10_indexOf_3 (q0 n0 : Nat) : Nat → Int32 → Int64 → Int32 → Sta → Option (Int32 × Sta)
  | 0, _, _, _, _ => none
  | n + 1, v1, v2, v4, σ => if v1 ≤ v4 then
      some (-1, σ)
    else
      if v4 < 0 ∨ n0 ≤ (v4.toNatClampNeg) then none else (
      if lg_cmp (gJ σ q0 (v4.toNatClampNeg)) v2 = 0 then
        some (v4, σ)
      else
        lt (v4 + 1) (fun x4 =>
        f_X10_indexOf_3 q0 n0 n v1 v2 x4 σ))
set_option maxHeartbeats 4000000 in
set_option maxRecDepth 100000 in
theorem t_X10_indexOf_3 {l : Launch} {D : va_G} {Y : CYs} {E : Nat → Nat} {X : List Dsc} (hX : Lok (LM ++ X)) {p : Program} {e : Env} {s : State} {m : MethodId} {args : Array Value} {below : List Frame} {meth : Method} {c : Code} {q0 n0 : Nat} {z0 : List (Nat × Nat)} (hq0 : (LM ++ X)[q0]? = some (2, n0, z0)) (hF : Fr p s m args meth c RX10 cX10_indexOf 5 (some .int) D Y E (LM ++ X)) {o : Int32 × Sta} : ∀ (n : Nat) (v1 : Int32) (v2 : Int64) (v4 : Int32) (σ : Sta) (H : Heap) (locs : List Loc) (ls : Array Slot), f_X10_indexOf_3 q0 n0 n v1 v2 v4 σ = some o → va_P D vwCl (wd Y E σ 0 (LM ++ X)) H → va_S (AF E (LM ++ X).length s.heap.size) s.heap H locs → lv_has ls 5 [(0, .ref (E q0)), (1, .int v1), (2, .long v2), (4, .int v4)] → WI p l e rm_X10_indexOf s m args below meth c (LM ++ X) Y D E o H locs (F0 m 3 ls []) := by
  intro n
  induction n with
  | zero =>
    intro v1 v2 v4 σ H locs ls h hP hS hl
    exact nomatch (show (none : Option (Int32 × Sta)) = some o from h)
  | succ n ih =>
    intro v1 v2 v4 σ H locs ls h hP hS hl
    rw [f_X10_indexOf_3] at h
    obtain ⟨hC, hb, hml, hr, hlk, hD, hSW⟩ := id hF
    have hx := hC.1
    refine lv_iload hx hb dX10_indexOf_3 (lv_at hl 3 rfl) ?_
    refine lv_iload_n hx hb dX10_indexOf_5 rfl (lv_at hl 1 rfl) ?_
    refine lv_icmp_ge (tgt := 27) hx hb dX10_indexOf_6 (by decide) (fun c1 => ?_) (fun c1 => ?_)
    · have h := of_t h c1
      refine lv_iconst (v := -1) hx hb dX10_indexOf_27 (by decide) ?_
      exact x_iret hF hP hS h dX10_indexOf_28
    · have h := of_f h c1
      refine lv_aload_n hx hb dX10_indexOf_9 rfl (lv_at hl 0 rfl) ?_
      refine lv_iload hx hb dX10_indexOf_10 (lv_at hl 3 rfl) ?_
      obtain ⟨g2, h⟩ := of_gd h
      refine x_lald hC hb hP hq0 g2 dX10_indexOf_12 ?_
      refine lv_lload_n hx hb dX10_indexOf_13 rfl (lv_at hl 2 rfl) ?_
      refine W.lcmp hx hb dX10_indexOf_14 ?_
      refine lv_if_ne (tgt := 21) hx hb dX10_indexOf_15 (by decide) (fun c3 => ?_) (fun c3 => ?_)
      · have h := of_f h c3
        obtain ⟨x4, ex4⟩ : ∃ y : Int32, y = v4 + 1 := ⟨_, rfl⟩
        have h := of_lt h ex4
        refine lv_iinc (v := x4) (lv' := [(4, .int x4), (0, .ref (E q0)), (1, .int v1), (2, .long v2)]) hx hb dX10_indexOf_21 hl (k := 3) rfl (by rw [ex4]; rfl) (by decide) rfl (fun ls hl => ?_)
        refine lv_goto (tgt := 3) hx hb dX10_indexOf_24 (by decide) ?_
        exact ih v1 v2 x4 σ _ _ _ h hP hS (lv_sub hl [1, 2, 3, 0] rfl)
      · have h := of_t h c3
        refine lv_iload hx hb dX10_indexOf_18 (lv_at hl 3 rfl) ?_
        exact x_iret hF hP hS h dX10_indexOf_20

def f_X10_indexOf (q0 n0 : Nat) (a1 : Int32) (a2 : Int64) (σ : Sta) : Option (Int32 × Sta) :=
  f_X10_indexOf_3 q0 n0 FU a1 a2 0 σ
set_option maxHeartbeats 4000000 in
set_option maxRecDepth 100000 in
theorem c_X10_indexOf {l : Launch} {D : va_G} {Y : CYs} {E : Nat → Nat} {X : List Dsc} (hX : Lok (LM ++ X)) {q0 n0 : Nat} {a1 : Int32} {a2 : Int64} {z0 : List (Nat × Nat)} (hq0 : (LM ++ X)[q0]? = some (2, n0, z0)) {σ : Sta} {o : Int32 × Sta} (h : f_X10_indexOf q0 n0 a1 a2 σ = some o) : MI l yX10_indexOf (Cond.code yX10_indexOf cX10_indexOf 5 (some .int) :: gW) rm_X10_indexOf (LM ++ X) Y D E [.ref (E q0), .int a1, .long a2] σ o := by
  intro sz
  refine Met_of (Qc := fun sz => QI (LM ++ X) Y D E sz o) (by decide) (Nat.le_of_ble_eq_true rfl) (fun p e s m args below meth c hF hP ls hl => ?_) sz
  have hS : va_S (AF E (LM ++ X).length s.heap.size) s.heap s.heap [] := va_S.rf
  have hl : lv_has ls 5 [(0, .ref (E q0)), (1, .int a1), (2, .long a2)] := hl
  show WI p l e rm_X10_indexOf s m args below meth c (LM ++ X) Y D E o s.heap [] (F0 m 0 ls [])
  unfold f_X10_indexOf at h
  obtain ⟨hC, hb, hml, hr, hlk, hD, hSW⟩ := id hF
  have hx := hC.1
  refine lv_iconst (v := 0) hx hb dX10_indexOf_0 (by decide) ?_
  refine lv_istore (lv' := [(4, .int 0), (0, .ref (E q0)), (1, .int a1), (2, .long a2)]) hx hb dX10_indexOf_1 hl (by decide) rfl (fun ls hl => ?_)
  exact t_X10_indexOf_3 hX  hq0 hF FU a1 a2 0 σ _ _ _ h hP hS (lv_sub hl [1, 2, 3, 0] rfl)

abbrev rm_X10_four : Room := { frames := 0, cells := 0, slots := 0, locals := 0 }
def f_X10_four_3 : Nat → Int32 → Int32 → Sta → Option (Unit × Sta)
  | 0, _, _, _ => none
  | n + 1, v1, v2, σ => if v2 < 0 then
      some ((), σ)
    else
      if gI σ 3 < 0 ∨ 1500 ≤ ((gI σ 3).toNatClampNeg) then none else (
      lt (sA σ 2 (upd (gA σ 2) ((gI σ 3).toNatClampNeg) ((v1 >>> (v2 &&& 31)) &&& 255))) (fun σ3 =>
      lt (sI σ3 3 ((gI σ3 3) + 1)) (fun σ4 =>
      lt (v2 + (-8)) (fun x5 =>
      f_X10_four_3 n v1 x5 σ4))))
set_option maxHeartbeats 4000000 in
set_option maxRecDepth 100000 in
theorem t_X10_four_3 {l : Launch} {D : va_G} {Y : CYs} {E : Nat → Nat} {X : List Dsc} (hX : Lok (LM ++ X)) {p : Program} {e : Env} {s : State} {m : MethodId} {args : Array Value} {below : List Frame} {meth : Method} {c : Code} (hF : Fr p s m args meth c RX10 cX10_four 3 none D Y E (LM ++ X)) {o : Unit × Sta} : ∀ (n : Nat) (v1 : Int32) (v2 : Int32) (σ : Sta) (H : Heap) (locs : List Loc) (ls : Array Slot), f_X10_four_3 n v1 v2 σ = some o → va_P D vwCl (wd Y E σ 0 (LM ++ X)) H → va_S (AF E (LM ++ X).length s.heap.size) s.heap H locs → lv_has ls 3 [(0, .ref (E 0)), (1, .int v1), (2, .int v2)] → WV p l e rm_X10_four s m args below meth c (LM ++ X) Y D E o H locs (F0 m 3 ls []) := by
  intro n
  induction n with
  | zero =>
    intro v1 v2 σ H locs ls h hP hS hl
    exact nomatch (show (none : Option (Unit × Sta)) = some o from h)
  | succ n ih =>
    intro v1 v2 σ H locs ls h hP hS hl
    rw [f_X10_four_3] at h
    obtain ⟨hC, hb, hml, hr, hlk, hD, hSW⟩ := id hF
    have hx := hC.1
    refine lv_iload_n hx hb dX10_four_3 rfl (lv_at hl 2 rfl) ?_
    refine lv_if_lt (tgt := 39) hx hb dX10_four_4 (by decide) (fun c1 => ?_) (fun c1 => ?_)
    · have h := of_t h c1
      exact x_vret hF hP hS h dX10_four_39
    · have h := of_f h c1
      refine lv_aload_n hx hb dX10_four_7 rfl (lv_at hl 0 rfl) ?_
      refine gf_X10_13 hC hb hP dX10_four_8 ?_
      refine lv_aload_n hx hb dX10_four_11 rfl (lv_at hl 0 rfl) ?_
      refine gf_X10_143 hC hb hP dX10_four_12 ?_
      refine lv_iload_n hx hb dX10_four_15 rfl (lv_at hl 1 rfl) ?_
      refine lv_iload_n hx hb dX10_four_16 rfl (lv_at hl 2 rfl) ?_
      refine lv_ishr hx hb dX10_four_17 ?_
      refine lv_sipush (v := 255) hx hb dX10_four_18 (by decide) ?_
      refine lv_iand hx hb dX10_four_21 ?_
      obtain ⟨g2, h⟩ := of_gd h
      refine x_iast hX hC hb hP hD hS (lm_2 X) g2 dX10_four_22 (fun H locs σ3 eσ3 hP hS => ?_)
      have h := of_lt h eσ3
      refine lv_aload_n hx hb dX10_four_23 rfl (lv_at hl 0 rfl) ?_
      refine lv_dup hx hb dX10_four_24 rfl ?_
      refine gf_X10_143 hC hb hP dX10_four_25 ?_
      refine lv_iconst (v := 1) hx hb dX10_four_28 (by decide) ?_
      refine lv_iadd hx hb dX10_four_29 ?_
      refine pf_X10_143 hX hC hb hP hD hS dX10_four_30 (fun H locs σ4 eσ4 hP hS => ?_)
      have h := of_lt h eσ4
      obtain ⟨x5, ex5⟩ : ∃ y : Int32, y = v2 + (-8) := ⟨_, rfl⟩
      have h := of_lt h ex5
      refine lv_iinc (v := x5) (lv' := [(2, .int x5), (0, .ref (E 0)), (1, .int v1)]) hx hb dX10_four_33 hl (k := 2) rfl (by rw [ex5]; rfl) (by decide) rfl (fun ls hl => ?_)
      refine lv_goto (tgt := 3) hx hb dX10_four_36 (by decide) ?_
      exact ih v1 x5 σ4 _ _ _ h hP hS (lv_sub hl [1, 2, 0] rfl)

def f_X10_four (a1 : Int32) (σ : Sta) : Option (Unit × Sta) :=
  f_X10_four_3 FU a1 24 σ
set_option maxHeartbeats 4000000 in
set_option maxRecDepth 100000 in
theorem c_X10_four {l : Launch} {D : va_G} {Y : CYs} {E : Nat → Nat} {X : List Dsc} (hX : Lok (LM ++ X)) {a1 : Int32} {σ : Sta} {o : Unit × Sta} (h : f_X10_four a1 σ = some o) : MV l yX10_four (Cond.code yX10_four cX10_four 3 none :: gW) rm_X10_four (LM ++ X) Y D E [.ref (E 0), .int a1] σ o := by
  intro sz
  refine Met_of (Qc := fun sz => QV (LM ++ X) Y D E sz o) (by decide) (Nat.le_of_ble_eq_true rfl) (fun p e s m args below meth c hF hP ls hl => ?_) sz
  have hS : va_S (AF E (LM ++ X).length s.heap.size) s.heap s.heap [] := va_S.rf
  have hl : lv_has ls 3 [(0, .ref (E 0)), (1, .int a1)] := hl
  show WV p l e rm_X10_four s m args below meth c (LM ++ X) Y D E o s.heap [] (F0 m 0 ls [])
  unfold f_X10_four at h
  obtain ⟨hC, hb, hml, hr, hlk, hD, hSW⟩ := id hF
  have hx := hC.1
  refine lv_bipush (v := 24) hx hb dX10_four_0 (by decide) ?_
  refine lv_istore_n (lv' := [(2, .int 24), (0, .ref (E 0)), (1, .int a1)]) hx hb dX10_four_2 rfl hl (by decide) rfl (fun ls hl => ?_)
  exact t_X10_four_3 hX  hF FU a1 24 σ _ _ _ h hP hS (lv_sub hl [1, 2, 0] rfl)

abbrev rm_X10_feed : Room := { frames := 1, cells := 0, slots := 0, locals := 22 }
def f_X10_feed (a1 : Int32) (a2 : Int32) (a3 : Int32) (a4 : Int32) (a5 : Int32) (σ : Sta) : Option (Int32 × Sta) :=
  lt (sI σ 0 0) (fun σ1 =>
  if (gI σ1 3) + 20 ≤ 1500 then
    bnd (f_X10_four a1 σ1) (fun _ σ4 =>
    bnd (f_X10_four a2 σ4) (fun _ σ7 =>
    bnd (f_X10_four a3 σ7) (fun _ σ10 =>
    bnd (f_X10_four a4 σ10) (fun _ σ13 =>
    bnd (f_X10_four a5 σ13) (fun _ σ16 =>
    some (gI σ16 3, σ16))))))
  else
    bnd (f_X10_fail 1 σ1) (fun r18 σ19 =>
    some (r18, σ19)))
set_option maxHeartbeats 4000000 in
set_option maxRecDepth 100000 in
theorem c_X10_feed {l : Launch} {D : va_G} {Y : CYs} {E : Nat → Nat} {X : List Dsc} (hX : Lok (LM ++ X)) {a1 : Int32} {a2 : Int32} {a3 : Int32} {a4 : Int32} {a5 : Int32} {σ : Sta} {o : Int32 × Sta} (h : f_X10_feed a1 a2 a3 a4 a5 σ = some o) : MI l yX10_feed (Cond.code yX10_feed cX10_feed 6 (some .int) :: gW) rm_X10_feed (LM ++ X) Y D E [.ref (E 0), .int a1, .int a2, .int a3, .int a4, .int a5] σ o := by
  intro sz
  refine Met_of (Qc := fun sz => QI (LM ++ X) Y D E sz o) (by decide) (Nat.le_of_ble_eq_true rfl) (fun p e s m args below meth c hF hP ls hl => ?_) sz
  have hS : va_S (AF E (LM ++ X).length s.heap.size) s.heap s.heap [] := va_S.rf
  have hl : lv_has ls 6 [(0, .ref (E 0)), (1, .int a1), (2, .int a2), (3, .int a3), (4, .int a4), (5, .int a5)] := hl
  show WI p l e rm_X10_feed s m args below meth c (LM ++ X) Y D E o s.heap [] (F0 m 0 ls [])
  unfold f_X10_feed at h
  obtain ⟨hC, hb, hml, hr, hlk, hD, hSW⟩ := id hF
  have hx := hC.1
  refine lv_aload_n hx hb dX10_feed_0 rfl (lv_at hl 0 rfl) ?_
  refine lv_iconst (v := 0) hx hb dX10_feed_1 (by decide) ?_
  refine pf_X10_140 hX hC hb hP hD hS dX10_feed_2 (fun H locs σ1 eσ1 hP hS => ?_)
  have h := of_lt h eσ1
  refine lv_aload_n hx hb dX10_feed_5 rfl (lv_at hl 0 rfl) ?_
  refine gf_X10_143 hC hb hP dX10_feed_6 ?_
  refine lv_bipush (v := 20) hx hb dX10_feed_9 (by decide) ?_
  refine lv_iadd hx hb dX10_feed_11 ?_
  refine lv_sipush (v := 1500) hx hb dX10_feed_12 (by decide) ?_
  refine lv_icmp_le (tgt := 24) hx hb dX10_feed_15 (by decide) (fun c2 => ?_) (fun c2 => ?_)
  · have h := of_t h c2
    refine lv_aload_n hx hb dX10_feed_24 rfl (lv_at hl 0 rfl) ?_
    refine lv_iload_n hx hb dX10_feed_25 rfl (lv_at hl 1 rfl) ?_
    obtain ⟨r3, σ4, g5, h⟩ := of_bnd h
    refine x_VV (As := [.int a1]) (rest := []) hF hl hP hS (c_X10_four hX g5) (cw_X10_150 hC rfl rfl ⟨Nat.le_of_ble_eq_true rfl, Nat.le_of_ble_eq_true rfl⟩) (lm_0 X) rfl rfl rfl (Nat.le_of_ble_eq_true rfl) dX10_feed_26 ⟨Nat.zero_le _, Nat.zero_le _⟩ (fun H locs hP hS => ?_)
    refine lv_aload_n hx hb dX10_feed_29 rfl (lv_at hl 0 rfl) ?_
    refine lv_iload_n hx hb dX10_feed_30 rfl (lv_at hl 2 rfl) ?_
    obtain ⟨r6, σ7, g8, h⟩ := of_bnd h
    refine x_VV (As := [.int a2]) (rest := []) hF hl hP hS (c_X10_four hX g8) (cw_X10_150 hC rfl rfl ⟨Nat.le_of_ble_eq_true rfl, Nat.le_of_ble_eq_true rfl⟩) (lm_0 X) rfl rfl rfl (Nat.le_of_ble_eq_true rfl) dX10_feed_31 ⟨Nat.zero_le _, Nat.zero_le _⟩ (fun H locs hP hS => ?_)
    refine lv_aload_n hx hb dX10_feed_34 rfl (lv_at hl 0 rfl) ?_
    refine lv_iload_n hx hb dX10_feed_35 rfl (lv_at hl 3 rfl) ?_
    obtain ⟨r9, σ10, g11, h⟩ := of_bnd h
    refine x_VV (As := [.int a3]) (rest := []) hF hl hP hS (c_X10_four hX g11) (cw_X10_150 hC rfl rfl ⟨Nat.le_of_ble_eq_true rfl, Nat.le_of_ble_eq_true rfl⟩) (lm_0 X) rfl rfl rfl (Nat.le_of_ble_eq_true rfl) dX10_feed_36 ⟨Nat.zero_le _, Nat.zero_le _⟩ (fun H locs hP hS => ?_)
    refine lv_aload_n hx hb dX10_feed_39 rfl (lv_at hl 0 rfl) ?_
    refine lv_iload hx hb dX10_feed_40 (lv_at hl 4 rfl) ?_
    obtain ⟨r12, σ13, g14, h⟩ := of_bnd h
    refine x_VV (As := [.int a4]) (rest := []) hF hl hP hS (c_X10_four hX g14) (cw_X10_150 hC rfl rfl ⟨Nat.le_of_ble_eq_true rfl, Nat.le_of_ble_eq_true rfl⟩) (lm_0 X) rfl rfl rfl (Nat.le_of_ble_eq_true rfl) dX10_feed_42 ⟨Nat.zero_le _, Nat.zero_le _⟩ (fun H locs hP hS => ?_)
    refine lv_aload_n hx hb dX10_feed_45 rfl (lv_at hl 0 rfl) ?_
    refine lv_iload hx hb dX10_feed_46 (lv_at hl 5 rfl) ?_
    obtain ⟨r15, σ16, g17, h⟩ := of_bnd h
    refine x_VV (As := [.int a5]) (rest := []) hF hl hP hS (c_X10_four hX g17) (cw_X10_150 hC rfl rfl ⟨Nat.le_of_ble_eq_true rfl, Nat.le_of_ble_eq_true rfl⟩) (lm_0 X) rfl rfl rfl (Nat.le_of_ble_eq_true rfl) dX10_feed_48 ⟨Nat.zero_le _, Nat.zero_le _⟩ (fun H locs hP hS => ?_)
    refine lv_aload_n hx hb dX10_feed_51 rfl (lv_at hl 0 rfl) ?_
    refine gf_X10_143 hC hb hP dX10_feed_52 ?_
    exact x_iret hF hP hS h dX10_feed_55
  · have h := of_f h c2
    refine lv_aload_n hx hb dX10_feed_18 rfl (lv_at hl 0 rfl) ?_
    refine lv_iconst (v := 1) hx hb dX10_feed_19 (by decide) ?_
    obtain ⟨r18, σ19, g20, h⟩ := of_bnd h
    refine x_VI (As := [.int 1]) (rest := []) hF hl hP hS (c_X10_fail hX g20) (cw_X10_146 hC rfl rfl ⟨Nat.le_of_ble_eq_true rfl, Nat.le_of_ble_eq_true rfl⟩) (lm_0 X) rfl rfl rfl (Nat.le_of_ble_eq_true rfl) dX10_feed_20 ⟨Nat.zero_le _, Nat.zero_le _⟩ (fun H locs hP hS => ?_)
    exact x_iret hF hP hS h dX10_feed_23

abbrev rm_X10_trim : Room := { frames := 1, cells := 0, slots := 0, locals := 25 }
def f_X10_trim (a1 : Int32) (σ : Sta) : Option (Int32 × Sta) :=
  lt (sI σ 0 0) (fun σ1 =>
  bnd (f_X10_isIn a1.toInt64 0 ((gI σ1 3).toInt64) σ1) (fun r2 σ3 =>
  if r2 = 0 then
    bnd (f_X10_fail 1 σ3) (fun r7 σ8 =>
    some (r7, σ8))
  else
    lt (sI σ3 3 a1) (fun σ6 =>
    some (a1, σ6))))
set_option maxHeartbeats 4000000 in
set_option maxRecDepth 100000 in
theorem c_X10_trim {l : Launch} {D : va_G} {Y : CYs} {E : Nat → Nat} {X : List Dsc} (hX : Lok (LM ++ X)) {a1 : Int32} {σ : Sta} {o : Int32 × Sta} (h : f_X10_trim a1 σ = some o) : MI l yX10_trim (Cond.code yX10_trim cX10_trim 2 (some .int) :: gW) rm_X10_trim (LM ++ X) Y D E [.ref (E 0), .int a1] σ o := by
  intro sz
  refine Met_of (Qc := fun sz => QI (LM ++ X) Y D E sz o) (by decide) (Nat.le_of_ble_eq_true rfl) (fun p e s m args below meth c hF hP ls hl => ?_) sz
  have hS : va_S (AF E (LM ++ X).length s.heap.size) s.heap s.heap [] := va_S.rf
  have hl : lv_has ls 2 [(0, .ref (E 0)), (1, .int a1)] := hl
  show WI p l e rm_X10_trim s m args below meth c (LM ++ X) Y D E o s.heap [] (F0 m 0 ls [])
  unfold f_X10_trim at h
  obtain ⟨hC, hb, hml, hr, hlk, hD, hSW⟩ := id hF
  have hx := hC.1
  refine lv_aload_n hx hb dX10_trim_0 rfl (lv_at hl 0 rfl) ?_
  refine lv_iconst (v := 0) hx hb dX10_trim_1 (by decide) ?_
  refine pf_X10_140 hX hC hb hP hD hS dX10_trim_2 (fun H locs σ1 eσ1 hP hS => ?_)
  have h := of_lt h eσ1
  refine lv_iload_n hx hb dX10_trim_5 rfl (lv_at hl 1 rfl) ?_
  refine lv_i2l (v := a1.toInt64) hx hb dX10_trim_6 rfl ?_
  refine lv_lconst (v := 0) hx hb dX10_trim_7 (by decide) ?_
  refine lv_aload_n hx hb dX10_trim_8 rfl (lv_at hl 0 rfl) ?_
  refine gf_X10_143 hC hb hP dX10_trim_9 ?_
  refine lv_i2l (v := (gI σ1 3).toInt64) hx hb dX10_trim_12 rfl ?_
  obtain ⟨r2, σ3, g4, h⟩ := of_bnd h
  refine x_SI (As := [.long a1.toInt64, .long 0, .long ((gI σ1 3).toInt64)]) (rest := []) hF hl hP hS (c_X10_isIn hX g4) (cw_X10_154 hC rfl rfl ⟨Nat.le_of_ble_eq_true rfl, Nat.le_of_ble_eq_true rfl⟩) rfl rfl (Nat.le_of_ble_eq_true rfl) dX10_trim_13 ⟨Nat.zero_le _, Nat.zero_le _⟩ (fun H locs hP hS => ?_)
  refine lv_if_ne (tgt := 25) hx hb dX10_trim_16 (by decide) (fun c5 => ?_) (fun c5 => ?_)
  · have h := of_f h c5
    refine lv_aload_n hx hb dX10_trim_25 rfl (lv_at hl 0 rfl) ?_
    refine lv_iload_n hx hb dX10_trim_26 rfl (lv_at hl 1 rfl) ?_
    refine pf_X10_143 hX hC hb hP hD hS dX10_trim_27 (fun H locs σ6 eσ6 hP hS => ?_)
    have h := of_lt h eσ6
    refine lv_iload_n hx hb dX10_trim_30 rfl (lv_at hl 1 rfl) ?_
    exact x_iret hF hP hS h dX10_trim_31
  · have h := of_t h c5
    refine lv_aload_n hx hb dX10_trim_19 rfl (lv_at hl 0 rfl) ?_
    refine lv_iconst (v := 1) hx hb dX10_trim_20 (by decide) ?_
    obtain ⟨r7, σ8, g9, h⟩ := of_bnd h
    refine x_VI (As := [.int 1]) (rest := []) hF hl hP hS (c_X10_fail hX g9) (cw_X10_146 hC rfl rfl ⟨Nat.le_of_ble_eq_true rfl, Nat.le_of_ble_eq_true rfl⟩) (lm_0 X) rfl rfl rfl (Nat.le_of_ble_eq_true rfl) dX10_trim_21 ⟨Nat.zero_le _, Nat.zero_le _⟩ (fun H locs hP hS => ?_)
    exact x_iret hF hP hS h dX10_trim_24

abbrev rm_X10_byteAt : Room := { frames := 0, cells := 0, slots := 0, locals := 0 }
def f_X10_byteAt_18 (s0 : Int32) (σ : Sta) : Option (Int32 × Sta) :=
  some (s0, σ)
set_option maxHeartbeats 4000000 in
set_option maxRecDepth 100000 in
theorem t_X10_byteAt_18 {l : Launch} {D : va_G} {Y : CYs} {E : Nat → Nat} {X : List Dsc} (hX : Lok (LM ++ X)) {p : Program} {e : Env} {s : State} {m : MethodId} {args : Array Value} {below : List Frame} {meth : Method} {c : Code} (hF : Fr p s m args meth c RX10 cX10_byteAt 2 (some .int) D Y E (LM ++ X)) {o : Int32 × Sta} : ∀ (s0 : Int32) (σ : Sta) (H : Heap) (locs : List Loc) (ls : Array Slot), f_X10_byteAt_18 s0 σ = some o → va_P D vwCl (wd Y E σ 0 (LM ++ X)) H → va_S (AF E (LM ++ X).length s.heap.size) s.heap H locs → lv_has ls 2 [] → WI p l e rm_X10_byteAt s m args below meth c (LM ++ X) Y D E o H locs (F0 m 18 ls [.int s0]) := by
  intro s0 σ H locs ls h hP hS hl
  unfold f_X10_byteAt_18 at h
  obtain ⟨hC, hb, hml, hr, hlk, hD, hSW⟩ := id hF
  have hx := hC.1
  exact x_iret hF hP hS h dX10_byteAt_18

def f_X10_byteAt (a1 : Int32) (σ : Sta) : Option (Int32 × Sta) :=
  if gI σ 3 ≤ a1 then
    f_X10_byteAt_18 (-1) σ
  else
    if a1 < 0 ∨ 1500 ≤ (a1.toNatClampNeg) then none else (
    f_X10_byteAt_18 (gA σ 2 (a1.toNatClampNeg)) σ)
set_option maxHeartbeats 4000000 in
set_option maxRecDepth 100000 in
theorem c_X10_byteAt {l : Launch} {D : va_G} {Y : CYs} {E : Nat → Nat} {X : List Dsc} (hX : Lok (LM ++ X)) {a1 : Int32} {σ : Sta} {o : Int32 × Sta} (h : f_X10_byteAt a1 σ = some o) : MI l yX10_byteAt (Cond.code yX10_byteAt cX10_byteAt 2 (some .int) :: gW) rm_X10_byteAt (LM ++ X) Y D E [.ref (E 0), .int a1] σ o := by
  intro sz
  refine Met_of (Qc := fun sz => QI (LM ++ X) Y D E sz o) (by decide) (Nat.le_of_ble_eq_true rfl) (fun p e s m args below meth c hF hP ls hl => ?_) sz
  have hS : va_S (AF E (LM ++ X).length s.heap.size) s.heap s.heap [] := va_S.rf
  have hl : lv_has ls 2 [(0, .ref (E 0)), (1, .int a1)] := hl
  show WI p l e rm_X10_byteAt s m args below meth c (LM ++ X) Y D E o s.heap [] (F0 m 0 ls [])
  unfold f_X10_byteAt at h
  obtain ⟨hC, hb, hml, hr, hlk, hD, hSW⟩ := id hF
  have hx := hC.1
  refine lv_iload_n hx hb dX10_byteAt_0 rfl (lv_at hl 1 rfl) ?_
  refine lv_aload_n hx hb dX10_byteAt_1 rfl (lv_at hl 0 rfl) ?_
  refine gf_X10_143 hC hb hP dX10_byteAt_2 ?_
  refine lv_icmp_ge (tgt := 17) hx hb dX10_byteAt_5 (by decide) (fun c1 => ?_) (fun c1 => ?_)
  · have h := of_t h c1
    refine lv_iconst (v := -1) hx hb dX10_byteAt_17 (by decide) ?_
    exact t_X10_byteAt_18 hX  hF (-1) σ _ _ _ h hP hS (lv_sub hl [] rfl)
  · have h := of_f h c1
    refine lv_aload_n hx hb dX10_byteAt_8 rfl (lv_at hl 0 rfl) ?_
    refine gf_X10_13 hC hb hP dX10_byteAt_9 ?_
    refine lv_iload_n hx hb dX10_byteAt_12 rfl (lv_at hl 1 rfl) ?_
    obtain ⟨g2, h⟩ := of_gd h
    refine x_iald hC hb hP (lm_2 X) g2 dX10_byteAt_13 ?_
    refine lv_goto (tgt := 18) hx hb dX10_byteAt_14 (by decide) ?_
    exact t_X10_byteAt_18 hX  hF (gA σ 2 (a1.toNatClampNeg)) σ _ _ _ h hP hS (lv_sub hl [] rfl)

abbrev rm_X10_isLetter : Room := { frames := 1, cells := 0, slots := 0, locals := 25 }
def f_X10_isLetter (a0 : Int32) (σ : Sta) : Option (Int32 × Sta) :=
  bnd (f_X10_isIn a0.toInt64 97 122 σ) (fun r1 σ2 =>
  if ¬ (r1 = 0 ∨ r1 = 1) then none else (
  some (r1, σ2)))
set_option maxHeartbeats 4000000 in
set_option maxRecDepth 100000 in
theorem c_X10_isLetter {l : Launch} {D : va_G} {Y : CYs} {E : Nat → Nat} {X : List Dsc} (hX : Lok (LM ++ X)) {a0 : Int32} {σ : Sta} {o : Int32 × Sta} (h : f_X10_isLetter a0 σ = some o) : MI l yX10_isLetter (Cond.code yX10_isLetter cX10_isLetter 1 (some .boolean) :: gW) rm_X10_isLetter (LM ++ X) Y D E [.int a0] σ o := by
  intro sz
  refine Met_of (Qc := fun sz => QI (LM ++ X) Y D E sz o) (by decide) (Nat.le_of_ble_eq_true rfl) (fun p e s m args below meth c hF hP ls hl => ?_) sz
  have hS : va_S (AF E (LM ++ X).length s.heap.size) s.heap s.heap [] := va_S.rf
  have hl : lv_has ls 1 [(0, .int a0)] := hl
  show WI p l e rm_X10_isLetter s m args below meth c (LM ++ X) Y D E o s.heap [] (F0 m 0 ls [])
  unfold f_X10_isLetter at h
  obtain ⟨hC, hb, hml, hr, hlk, hD, hSW⟩ := id hF
  have hx := hC.1
  refine lv_iload_n hx hb dX10_isLetter_0 rfl (lv_at hl 0 rfl) ?_
  refine lv_i2l (v := a0.toInt64) hx hb dX10_isLetter_1 rfl ?_
  refine lv_ldc2 (v := 97) hx hb hC.2.2.1 (hC.2.1 (Cond.constantLong RX10 158 97) (gw_t (tb7 (List.mem_of_getElem? (i := 20) rfl)) rfl)) dX10_isLetter_2 ?_
  refine lv_ldc2 (v := 122) hx hb hC.2.2.1 (hC.2.1 (Cond.constantLong RX10 160 122) (gw_t (tb7 (List.mem_of_getElem? (i := 21) rfl)) rfl)) dX10_isLetter_5 ?_
  obtain ⟨r1, σ2, g3, h⟩ := of_bnd h
  refine x_SI (As := [.long a0.toInt64, .long 97, .long 122]) (rest := []) hF hl hP hS (c_X10_isIn hX g3) (cw_X10_154 hC rfl rfl ⟨Nat.le_of_ble_eq_true rfl, Nat.le_of_ble_eq_true rfl⟩) rfl rfl (Nat.le_of_ble_eq_true rfl) dX10_isLetter_8 ⟨Nat.zero_le _, Nat.zero_le _⟩ (fun H locs hP hS => ?_)
  obtain ⟨g4, h⟩ := of_gd h
  exact x_zret hF hP hS (zb g4) h dX10_isLetter_11

abbrev rm_X10_isDigit : Room := { frames := 1, cells := 0, slots := 0, locals := 25 }
def f_X10_isDigit (a0 : Int32) (σ : Sta) : Option (Int32 × Sta) :=
  bnd (f_X10_isIn a0.toInt64 48 57 σ) (fun r1 σ2 =>
  if ¬ (r1 = 0 ∨ r1 = 1) then none else (
  some (r1, σ2)))
set_option maxHeartbeats 4000000 in
set_option maxRecDepth 100000 in
theorem c_X10_isDigit {l : Launch} {D : va_G} {Y : CYs} {E : Nat → Nat} {X : List Dsc} (hX : Lok (LM ++ X)) {a0 : Int32} {σ : Sta} {o : Int32 × Sta} (h : f_X10_isDigit a0 σ = some o) : MI l yX10_isDigit (Cond.code yX10_isDigit cX10_isDigit 1 (some .boolean) :: gW) rm_X10_isDigit (LM ++ X) Y D E [.int a0] σ o := by
  intro sz
  refine Met_of (Qc := fun sz => QI (LM ++ X) Y D E sz o) (by decide) (Nat.le_of_ble_eq_true rfl) (fun p e s m args below meth c hF hP ls hl => ?_) sz
  have hS : va_S (AF E (LM ++ X).length s.heap.size) s.heap s.heap [] := va_S.rf
  have hl : lv_has ls 1 [(0, .int a0)] := hl
  show WI p l e rm_X10_isDigit s m args below meth c (LM ++ X) Y D E o s.heap [] (F0 m 0 ls [])
  unfold f_X10_isDigit at h
  obtain ⟨hC, hb, hml, hr, hlk, hD, hSW⟩ := id hF
  have hx := hC.1
  refine lv_iload_n hx hb dX10_isDigit_0 rfl (lv_at hl 0 rfl) ?_
  refine lv_i2l (v := a0.toInt64) hx hb dX10_isDigit_1 rfl ?_
  refine lv_ldc2 (v := 48) hx hb hC.2.2.1 (hC.2.1 (Cond.constantLong RX10 162 48) (gw_t (tb7 (List.mem_of_getElem? (i := 25) rfl)) rfl)) dX10_isDigit_2 ?_
  refine lv_ldc2 (v := 57) hx hb hC.2.2.1 (hC.2.1 (Cond.constantLong RX10 164 57) (gw_t (tb7 (List.mem_of_getElem? (i := 26) rfl)) rfl)) dX10_isDigit_5 ?_
  obtain ⟨r1, σ2, g3, h⟩ := of_bnd h
  refine x_SI (As := [.long a0.toInt64, .long 48, .long 57]) (rest := []) hF hl hP hS (c_X10_isIn hX g3) (cw_X10_154 hC rfl rfl ⟨Nat.le_of_ble_eq_true rfl, Nat.le_of_ble_eq_true rfl⟩) rfl rfl (Nat.le_of_ble_eq_true rfl) dX10_isDigit_8 ⟨Nat.zero_le _, Nat.zero_le _⟩ (fun H locs hP hS => ?_)
  obtain ⟨g4, h⟩ := of_gd h
  exact x_zret hF hP hS (zb g4) h dX10_isDigit_11

abbrev rm_X10_token : Room := { frames := 0, cells := 0, slots := 0, locals := 0 }
def f_X10_token (a1 : Int32) (a2 : Int32) (a3 : Int64) (σ : Sta) : Option (Unit × Sta) :=
  if gI σ 4 < 0 ∨ 1501 ≤ ((gI σ 4).toNatClampNeg) then none else (
  lt (sA σ 3 (upd (gA σ 3) ((gI σ 4).toNatClampNeg) a1)) (fun σ2 =>
  if gI σ2 4 < 0 ∨ 1501 ≤ ((gI σ2 4).toNatClampNeg) then none else (
  lt (sA σ2 4 (upd (gA σ2 4) ((gI σ2 4).toNatClampNeg) a2)) (fun σ4 =>
  if gI σ4 4 < 0 ∨ 1501 ≤ ((gI σ4 4).toNatClampNeg) then none else (
  lt (sJ σ4 5 (vp_updL (gJ σ4 5) ((gI σ4 4).toNatClampNeg) a3)) (fun σ6 =>
  lt (sI σ6 4 ((gI σ6 4) + 1)) (fun σ7 =>
  some ((), σ7))))))))
set_option maxHeartbeats 4000000 in
set_option maxRecDepth 100000 in
theorem c_X10_token {l : Launch} {D : va_G} {Y : CYs} {E : Nat → Nat} {X : List Dsc} (hX : Lok (LM ++ X)) {a1 : Int32} {a2 : Int32} {a3 : Int64} {σ : Sta} {o : Unit × Sta} (h : f_X10_token a1 a2 a3 σ = some o) : MV l yX10_token (Cond.code yX10_token cX10_token 5 none :: gW) rm_X10_token (LM ++ X) Y D E [.ref (E 0), .int a1, .int a2, .long a3] σ o := by
  intro sz
  refine Met_of (Qc := fun sz => QV (LM ++ X) Y D E sz o) (by decide) (Nat.le_of_ble_eq_true rfl) (fun p e s m args below meth c hF hP ls hl => ?_) sz
  have hS : va_S (AF E (LM ++ X).length s.heap.size) s.heap s.heap [] := va_S.rf
  have hl : lv_has ls 5 [(0, .ref (E 0)), (1, .int a1), (2, .int a2), (3, .long a3)] := hl
  show WV p l e rm_X10_token s m args below meth c (LM ++ X) Y D E o s.heap [] (F0 m 0 ls [])
  unfold f_X10_token at h
  obtain ⟨hC, hb, hml, hr, hlk, hD, hSW⟩ := id hF
  have hx := hC.1
  refine lv_aload_n hx hb dX10_token_0 rfl (lv_at hl 0 rfl) ?_
  refine gf_X10_17 hC hb hP dX10_token_1 ?_
  refine lv_aload_n hx hb dX10_token_4 rfl (lv_at hl 0 rfl) ?_
  refine gf_X10_166 hC hb hP dX10_token_5 ?_
  refine lv_iload_n hx hb dX10_token_8 rfl (lv_at hl 1 rfl) ?_
  obtain ⟨g1, h⟩ := of_gd h
  refine x_iast hX hC hb hP hD hS (lm_3 X) g1 dX10_token_9 (fun H locs σ2 eσ2 hP hS => ?_)
  have h := of_lt h eσ2
  refine lv_aload_n hx hb dX10_token_10 rfl (lv_at hl 0 rfl) ?_
  refine gf_X10_20 hC hb hP dX10_token_11 ?_
  refine lv_aload_n hx hb dX10_token_14 rfl (lv_at hl 0 rfl) ?_
  refine gf_X10_166 hC hb hP dX10_token_15 ?_
  refine lv_iload_n hx hb dX10_token_18 rfl (lv_at hl 2 rfl) ?_
  obtain ⟨g3, h⟩ := of_gd h
  refine x_iast hX hC hb hP hD hS (lm_4 X) g3 dX10_token_19 (fun H locs σ4 eσ4 hP hS => ?_)
  have h := of_lt h eσ4
  refine lv_aload_n hx hb dX10_token_20 rfl (lv_at hl 0 rfl) ?_
  refine gf_X10_23 hC hb hP dX10_token_21 ?_
  refine lv_aload_n hx hb dX10_token_24 rfl (lv_at hl 0 rfl) ?_
  refine gf_X10_166 hC hb hP dX10_token_25 ?_
  refine lv_lload_n hx hb dX10_token_28 rfl (lv_at hl 3 rfl) ?_
  obtain ⟨g5, h⟩ := of_gd h
  refine x_last hX hC hb hP hD hS (lm_5 X) g5 dX10_token_29 (fun H locs σ6 eσ6 hP hS => ?_)
  have h := of_lt h eσ6
  refine lv_aload_n hx hb dX10_token_30 rfl (lv_at hl 0 rfl) ?_
  refine lv_dup hx hb dX10_token_31 rfl ?_
  refine gf_X10_166 hC hb hP dX10_token_32 ?_
  refine lv_iconst (v := 1) hx hb dX10_token_35 (by decide) ?_
  refine lv_iadd hx hb dX10_token_36 ?_
  refine pf_X10_166 hX hC hb hP hD hS dX10_token_37 (fun H locs σ7 eσ7 hP hS => ?_)
  have h := of_lt h eσ7
  exact x_vret hF hP hS h dX10_token_40

abbrev rm_X10_symbol : Room := { frames := 4, cells := 0, slots := 0, locals := 93 }
def f_X10_symbol_133 (s0 : Int32) (σ : Sta) : Option (Int32 × Sta) :=
  some (s0, σ)
set_option maxHeartbeats 4000000 in
set_option maxRecDepth 100000 in
theorem t_X10_symbol_133 {l : Launch} {D : va_G} {Y : CYs} {E : Nat → Nat} {X : List Dsc} (hX : Lok (LM ++ X)) {p : Program} {e : Env} {s : State} {m : MethodId} {args : Array Value} {below : List Frame} {meth : Method} {c : Code} (hF : Fr p s m args meth c RX10 cX10_symbol 6 (some .int) D Y E (LM ++ X)) {o : Int32 × Sta} : ∀ (s0 : Int32) (σ : Sta) (H : Heap) (locs : List Loc) (ls : Array Slot), f_X10_symbol_133 s0 σ = some o → va_P D vwCl (wd Y E σ 0 (LM ++ X)) H → va_S (AF E (LM ++ X).length s.heap.size) s.heap H locs → lv_has ls 6 [] → WI p l e rm_X10_symbol s m args below meth c (LM ++ X) Y D E o H locs (F0 m 133 ls [.int s0]) := by
  intro s0 σ H locs ls h hP hS hl
  unfold f_X10_symbol_133 at h
  obtain ⟨hC, hb, hml, hr, hlk, hD, hSW⟩ := id hF
  have hx := hC.1
  exact x_iret hF hP hS h dX10_symbol_133

def f_X10_symbol_119 (v1 : Int32) (v4 : Int32) (σ : Sta) : Option (Int32 × Sta) :=
  if v4 = 0 then
    f_X10_symbol_133 (v1 + 1) σ
  else
    f_X10_symbol_133 (v1 + 2) σ
set_option maxHeartbeats 4000000 in
set_option maxRecDepth 100000 in
theorem t_X10_symbol_119 {l : Launch} {D : va_G} {Y : CYs} {E : Nat → Nat} {X : List Dsc} (hX : Lok (LM ++ X)) {p : Program} {e : Env} {s : State} {m : MethodId} {args : Array Value} {below : List Frame} {meth : Method} {c : Code} (hF : Fr p s m args meth c RX10 cX10_symbol 6 (some .int) D Y E (LM ++ X)) {o : Int32 × Sta} : ∀ (v1 : Int32) (v4 : Int32) (σ : Sta) (H : Heap) (locs : List Loc) (ls : Array Slot), f_X10_symbol_119 v1 v4 σ = some o → va_P D vwCl (wd Y E σ 0 (LM ++ X)) H → va_S (AF E (LM ++ X).length s.heap.size) s.heap H locs → lv_has ls 6 [(1, .int v1), (4, .int v4)] → WI p l e rm_X10_symbol s m args below meth c (LM ++ X) Y D E o H locs (F0 m 119 ls []) := by
  intro v1 v4 σ H locs ls h hP hS hl
  unfold f_X10_symbol_119 at h
  obtain ⟨hC, hb, hml, hr, hlk, hD, hSW⟩ := id hF
  have hx := hC.1
  refine lv_iload hx hb dX10_symbol_119 (lv_at hl 1 rfl) ?_
  refine lv_if_eq (tgt := 130) hx hb dX10_symbol_121 (by decide) (fun c1 => ?_) (fun c1 => ?_)
  · have h := of_t h c1
    refine lv_iload_n hx hb dX10_symbol_130 rfl (lv_at hl 0 rfl) ?_
    refine lv_iconst (v := 1) hx hb dX10_symbol_131 (by decide) ?_
    refine lv_iadd hx hb dX10_symbol_132 ?_
    exact t_X10_symbol_133 hX  hF (v1 + 1) σ _ _ _ h hP hS (lv_sub hl [] rfl)
  · have h := of_f h c1
    refine lv_iload_n hx hb dX10_symbol_124 rfl (lv_at hl 0 rfl) ?_
    refine lv_iconst (v := 2) hx hb dX10_symbol_125 (by decide) ?_
    refine lv_iadd hx hb dX10_symbol_126 ?_
    refine lv_goto (tgt := 133) hx hb dX10_symbol_127 (by decide) ?_
    exact t_X10_symbol_133 hX  hF (v1 + 2) σ _ _ _ h hP hS (lv_sub hl [] rfl)

def f_X10_symbol_89 (v1 : Int32) (v4 : Int32) (s0 : Int32) (σ : Sta) : Option (Int32 × Sta) :=
  bnd (f_X10_token s0 v1 0 σ) (fun _ σ2 =>
  f_X10_symbol_119 v1 v4 σ2)
set_option maxHeartbeats 4000000 in
set_option maxRecDepth 100000 in
theorem t_X10_symbol_89 {l : Launch} {D : va_G} {Y : CYs} {E : Nat → Nat} {X : List Dsc} (hX : Lok (LM ++ X)) {p : Program} {e : Env} {s : State} {m : MethodId} {args : Array Value} {below : List Frame} {meth : Method} {c : Code} (hF : Fr p s m args meth c RX10 cX10_symbol 6 (some .int) D Y E (LM ++ X)) {o : Int32 × Sta} : ∀ (v1 : Int32) (v4 : Int32) (s0 : Int32) (σ : Sta) (H : Heap) (locs : List Loc) (ls : Array Slot), f_X10_symbol_89 v1 v4 s0 σ = some o → va_P D vwCl (wd Y E σ 0 (LM ++ X)) H → va_S (AF E (LM ++ X).length s.heap.size) s.heap H locs → lv_has ls 6 [(1, .int v1), (4, .int v4)] → WI p l e rm_X10_symbol s m args below meth c (LM ++ X) Y D E o H locs (F0 m 89 ls [.int s0, .ref (E 0)]) := by
  intro v1 v4 s0 σ H locs ls h hP hS hl
  unfold f_X10_symbol_89 at h
  obtain ⟨hC, hb, hml, hr, hlk, hD, hSW⟩ := id hF
  have hx := hC.1
  refine lv_iload_n hx hb dX10_symbol_89 rfl (lv_at hl 0 rfl) ?_
  refine lv_lconst (v := 0) hx hb dX10_symbol_90 (by decide) ?_
  obtain ⟨r1, σ2, g3, h⟩ := of_bnd h
  refine x_VV (As := [.int s0, .int v1, .long 0]) (rest := []) hF hl hP hS (c_X10_token hX g3) (cw_X10_172 hC rfl rfl ⟨Nat.le_of_ble_eq_true rfl, Nat.le_of_ble_eq_true rfl⟩) (lm_0 X) rfl rfl rfl (Nat.le_of_ble_eq_true rfl) dX10_symbol_91 ⟨Nat.zero_le _, Nat.zero_le _⟩ (fun H locs hP hS => ?_)
  refine lv_goto (tgt := 119) hx hb dX10_symbol_94 (by decide) ?_
  exact t_X10_symbol_119 hX  hF v1 v4 σ2 _ _ _ h hP hS (lv_sub hl [0, 1] rfl)

def f_X10_symbol_114 (v1 : Int32) (v4 : Int32) (s0 : Int32) (σ : Sta) : Option (Int32 × Sta) :=
  bnd (f_X10_token s0 v1 0 σ) (fun _ σ2 =>
  f_X10_symbol_119 v1 v4 σ2)
set_option maxHeartbeats 4000000 in
set_option maxRecDepth 100000 in
theorem t_X10_symbol_114 {l : Launch} {D : va_G} {Y : CYs} {E : Nat → Nat} {X : List Dsc} (hX : Lok (LM ++ X)) {p : Program} {e : Env} {s : State} {m : MethodId} {args : Array Value} {below : List Frame} {meth : Method} {c : Code} (hF : Fr p s m args meth c RX10 cX10_symbol 6 (some .int) D Y E (LM ++ X)) {o : Int32 × Sta} : ∀ (v1 : Int32) (v4 : Int32) (s0 : Int32) (σ : Sta) (H : Heap) (locs : List Loc) (ls : Array Slot), f_X10_symbol_114 v1 v4 s0 σ = some o → va_P D vwCl (wd Y E σ 0 (LM ++ X)) H → va_S (AF E (LM ++ X).length s.heap.size) s.heap H locs → lv_has ls 6 [(1, .int v1), (4, .int v4)] → WI p l e rm_X10_symbol s m args below meth c (LM ++ X) Y D E o H locs (F0 m 114 ls [.int s0, .ref (E 0)]) := by
  intro v1 v4 s0 σ H locs ls h hP hS hl
  unfold f_X10_symbol_114 at h
  obtain ⟨hC, hb, hml, hr, hlk, hD, hSW⟩ := id hF
  have hx := hC.1
  refine lv_iload_n hx hb dX10_symbol_114 rfl (lv_at hl 0 rfl) ?_
  refine lv_lconst (v := 0) hx hb dX10_symbol_115 (by decide) ?_
  obtain ⟨r1, σ2, g3, h⟩ := of_bnd h
  refine x_VV (As := [.int s0, .int v1, .long 0]) (rest := []) hF hl hP hS (c_X10_token hX g3) (cw_X10_172 hC rfl rfl ⟨Nat.le_of_ble_eq_true rfl, Nat.le_of_ble_eq_true rfl⟩) (lm_0 X) rfl rfl rfl (Nat.le_of_ble_eq_true rfl) dX10_symbol_116 ⟨Nat.zero_le _, Nat.zero_le _⟩ (fun H locs hP hS => ?_)
  exact t_X10_symbol_119 hX  hF v1 v4 σ2 _ _ _ h hP hS (lv_sub hl [0, 1] rfl)

def f_X10_symbol_49 (v1 : Int32) (v2 : Int32) (v3 : Int32) (s0 : Int32) (σ : Sta) : Option (Int32 × Sta) :=
  bnd (f_J0_indexOf_0f7a4 13 bS2 v2 σ) (fun r2 σ3 =>
  if s0 = 0 then
    if 0 ≤ r2 then
      f_X10_symbol_114 v1 s0 (100 + r2) σ3
    else
      f_X10_symbol_114 v1 s0 203 σ3
  else
    if v2 = 62 then
      f_X10_symbol_89 v1 s0 114 σ3
    else
      if v3 = 61 then
        f_X10_symbol_89 v1 s0 113 σ3
      else
        f_X10_symbol_89 v1 s0 115 σ3)
set_option maxHeartbeats 4000000 in
set_option maxRecDepth 100000 in
theorem t_X10_symbol_49 {l : Launch} {D : va_G} {Y : CYs} {E : Nat → Nat} {X : List Dsc} (hX : Lok (LM ++ X)) {p : Program} {e : Env} {s : State} {m : MethodId} {args : Array Value} {below : List Frame} {meth : Method} {c : Code} (hF : Fr p s m args meth c RX10 cX10_symbol 6 (some .int) D Y E (LM ++ X)) {o : Int32 × Sta} : ∀ (v1 : Int32) (v2 : Int32) (v3 : Int32) (s0 : Int32) (σ : Sta) (H : Heap) (locs : List Loc) (ls : Array Slot), f_X10_symbol_49 v1 v2 v3 s0 σ = some o → va_P D vwCl (wd Y E σ 0 (LM ++ X)) H → va_S (AF E (LM ++ X).length s.heap.size) s.heap H locs → lv_has ls 6 [(0, .ref (E 0)), (1, .int v1), (2, .int v2), (3, .int v3)] → WI p l e rm_X10_symbol s m args below meth c (LM ++ X) Y D E o H locs (F0 m 49 ls [.int s0]) := by
  intro v1 v2 v3 s0 σ H locs ls h hP hS hl
  unfold f_X10_symbol_49 at h
  obtain ⟨hC, hb, hml, hr, hlk, hD, hSW⟩ := id hF
  have hx := hC.1
  refine lv_istore (lv' := [(4, .int s0), (0, .ref (E 0)), (1, .int v1), (2, .int v2), (3, .int v3)]) hx hb dX10_symbol_49 hl (by decide) rfl (fun ls hl => ?_)
  obtain ⟨a1, vs1, hRa1, hSTa1⟩ := hSW.1 _ (List.mem_of_getElem? (i := 3) rfl)
  refine va_ldcS hx hb hC.2.2.1 hRa1 dX10_symbol_51 ?_
  refine lv_iload_n hx hb dX10_symbol_53 rfl (lv_at hl 3 rfl) ?_
  obtain ⟨r2, σ3, g4, h⟩ := of_bnd h
  refine x_VIs (As := [.int v2]) (rest := []) hF hSTa1 hl hP hS (c_J0_indexOf_0f7a4 hX g4) (cw_X10_193 hC rfl rfl ⟨Nat.le_of_ble_eq_true rfl, Nat.le_of_ble_eq_true rfl⟩) rfl rfl (Nat.le_of_ble_eq_true rfl) dX10_symbol_54 ⟨Nat.zero_le _, Nat.zero_le _⟩ (fun H locs hP hS => ?_)
  refine lv_istore (lv' := [(5, .int r2), (4, .int s0), (0, .ref (E 0)), (1, .int v1), (2, .int v2), (3, .int v3)]) hx hb dX10_symbol_57 hl (by decide) rfl (fun ls hl => ?_)
  refine lv_iload hx hb dX10_symbol_59 (lv_at hl 1 rfl) ?_
  refine lv_if_eq (tgt := 97) hx hb dX10_symbol_61 (by decide) (fun c5 => ?_) (fun c5 => ?_)
  · have h := of_t h c5
    refine lv_aload_n hx hb dX10_symbol_97 rfl (lv_at hl 2 rfl) ?_
    refine lv_iload hx hb dX10_symbol_98 (lv_at hl 0 rfl) ?_
    refine lv_if_ge (tgt := 109) hx hb dX10_symbol_100 (by decide) (fun c6 => ?_) (fun c6 => ?_)
    · have h := of_t h c6
      refine lv_bipush (v := 100) hx hb dX10_symbol_109 (by decide) ?_
      refine lv_iload hx hb dX10_symbol_111 (lv_at hl 0 rfl) ?_
      refine lv_iadd hx hb dX10_symbol_113 ?_
      exact t_X10_symbol_114 hX  hF v1 s0 (100 + r2) σ3 _ _ _ h hP hS (lv_sub hl [3, 1] rfl)
    · have h := of_f h c6
      refine lv_sipush (v := 203) hx hb dX10_symbol_103 (by decide) ?_
      refine lv_goto (tgt := 114) hx hb dX10_symbol_106 (by decide) ?_
      exact t_X10_symbol_114 hX  hF v1 s0 203 σ3 _ _ _ h hP hS (lv_sub hl [3, 1] rfl)
  · have h := of_f h c5
    refine lv_aload_n hx hb dX10_symbol_64 rfl (lv_at hl 2 rfl) ?_
    refine lv_iload_n hx hb dX10_symbol_65 rfl (lv_at hl 4 rfl) ?_
    refine lv_bipush (v := 62) hx hb dX10_symbol_66 (by decide) ?_
    refine lv_icmp_ne (tgt := 76) hx hb dX10_symbol_68 (by decide) (fun c7 => ?_) (fun c7 => ?_)
    · have h := of_f h c7
      refine lv_iload_n hx hb dX10_symbol_76 rfl (lv_at hl 5 rfl) ?_
      refine lv_bipush (v := 61) hx hb dX10_symbol_77 (by decide) ?_
      refine lv_icmp_ne (tgt := 87) hx hb dX10_symbol_79 (by decide) (fun c8 => ?_) (fun c8 => ?_)
      · have h := of_f h c8
        refine lv_bipush (v := 115) hx hb dX10_symbol_87 (by decide) ?_
        exact t_X10_symbol_89 hX  hF v1 s0 115 σ3 _ _ _ h hP hS (lv_sub hl [3, 1] rfl)
      · have h := of_t h c8
        refine lv_bipush (v := 113) hx hb dX10_symbol_82 (by decide) ?_
        refine lv_goto (tgt := 89) hx hb dX10_symbol_84 (by decide) ?_
        exact t_X10_symbol_89 hX  hF v1 s0 113 σ3 _ _ _ h hP hS (lv_sub hl [3, 1] rfl)
    · have h := of_t h c7
      refine lv_bipush (v := 114) hx hb dX10_symbol_71 (by decide) ?_
      refine lv_goto (tgt := 89) hx hb dX10_symbol_73 (by decide) ?_
      exact t_X10_symbol_89 hX  hF v1 s0 114 σ3 _ _ _ h hP hS (lv_sub hl [3, 1] rfl)

def f_X10_symbol_44 (v1 : Int32) (v2 : Int32) (v3 : Int32) (σ : Sta) : Option (Int32 × Sta) :=
  f_X10_symbol_49 v1 v2 v3 1 σ
set_option maxHeartbeats 4000000 in
set_option maxRecDepth 100000 in
theorem t_X10_symbol_44 {l : Launch} {D : va_G} {Y : CYs} {E : Nat → Nat} {X : List Dsc} (hX : Lok (LM ++ X)) {p : Program} {e : Env} {s : State} {m : MethodId} {args : Array Value} {below : List Frame} {meth : Method} {c : Code} (hF : Fr p s m args meth c RX10 cX10_symbol 6 (some .int) D Y E (LM ++ X)) {o : Int32 × Sta} : ∀ (v1 : Int32) (v2 : Int32) (v3 : Int32) (σ : Sta) (H : Heap) (locs : List Loc) (ls : Array Slot), f_X10_symbol_44 v1 v2 v3 σ = some o → va_P D vwCl (wd Y E σ 0 (LM ++ X)) H → va_S (AF E (LM ++ X).length s.heap.size) s.heap H locs → lv_has ls 6 [(0, .ref (E 0)), (1, .int v1), (2, .int v2), (3, .int v3)] → WI p l e rm_X10_symbol s m args below meth c (LM ++ X) Y D E o H locs (F0 m 44 ls []) := by
  intro v1 v2 v3 σ H locs ls h hP hS hl
  unfold f_X10_symbol_44 at h
  obtain ⟨hC, hb, hml, hr, hlk, hD, hSW⟩ := id hF
  have hx := hC.1
  refine lv_iconst (v := 1) hx hb dX10_symbol_44 (by decide) ?_
  refine lv_goto (tgt := 49) hx hb dX10_symbol_45 (by decide) ?_
  exact t_X10_symbol_49 hX  hF v1 v2 v3 1 σ _ _ _ h hP hS (lv_sub hl [0, 1, 2, 3] rfl)

def f_X10_symbol_48 (v1 : Int32) (v2 : Int32) (v3 : Int32) (σ : Sta) : Option (Int32 × Sta) :=
  f_X10_symbol_49 v1 v2 v3 0 σ
set_option maxHeartbeats 4000000 in
set_option maxRecDepth 100000 in
theorem t_X10_symbol_48 {l : Launch} {D : va_G} {Y : CYs} {E : Nat → Nat} {X : List Dsc} (hX : Lok (LM ++ X)) {p : Program} {e : Env} {s : State} {m : MethodId} {args : Array Value} {below : List Frame} {meth : Method} {c : Code} (hF : Fr p s m args meth c RX10 cX10_symbol 6 (some .int) D Y E (LM ++ X)) {o : Int32 × Sta} : ∀ (v1 : Int32) (v2 : Int32) (v3 : Int32) (σ : Sta) (H : Heap) (locs : List Loc) (ls : Array Slot), f_X10_symbol_48 v1 v2 v3 σ = some o → va_P D vwCl (wd Y E σ 0 (LM ++ X)) H → va_S (AF E (LM ++ X).length s.heap.size) s.heap H locs → lv_has ls 6 [(0, .ref (E 0)), (1, .int v1), (2, .int v2), (3, .int v3)] → WI p l e rm_X10_symbol s m args below meth c (LM ++ X) Y D E o H locs (F0 m 48 ls []) := by
  intro v1 v2 v3 σ H locs ls h hP hS hl
  unfold f_X10_symbol_48 at h
  obtain ⟨hC, hb, hml, hr, hlk, hD, hSW⟩ := id hF
  have hx := hC.1
  refine lv_iconst (v := 0) hx hb dX10_symbol_48 (by decide) ?_
  exact t_X10_symbol_49 hX  hF v1 v2 v3 0 σ _ _ _ h hP hS (lv_sub hl [0, 1, 2, 3] rfl)

def f_X10_symbol_32 (v1 : Int32) (v2 : Int32) (v3 : Int32) (σ : Sta) : Option (Int32 × Sta) :=
  if v2 = 60 then
    if v3 = 62 then
      f_X10_symbol_44 v1 v2 v3 σ
    else
      f_X10_symbol_48 v1 v2 v3 σ
  else
    f_X10_symbol_48 v1 v2 v3 σ
set_option maxHeartbeats 4000000 in
set_option maxRecDepth 100000 in
theorem t_X10_symbol_32 {l : Launch} {D : va_G} {Y : CYs} {E : Nat → Nat} {X : List Dsc} (hX : Lok (LM ++ X)) {p : Program} {e : Env} {s : State} {m : MethodId} {args : Array Value} {below : List Frame} {meth : Method} {c : Code} (hF : Fr p s m args meth c RX10 cX10_symbol 6 (some .int) D Y E (LM ++ X)) {o : Int32 × Sta} : ∀ (v1 : Int32) (v2 : Int32) (v3 : Int32) (σ : Sta) (H : Heap) (locs : List Loc) (ls : Array Slot), f_X10_symbol_32 v1 v2 v3 σ = some o → va_P D vwCl (wd Y E σ 0 (LM ++ X)) H → va_S (AF E (LM ++ X).length s.heap.size) s.heap H locs → lv_has ls 6 [(0, .ref (E 0)), (1, .int v1), (2, .int v2), (3, .int v3)] → WI p l e rm_X10_symbol s m args below meth c (LM ++ X) Y D E o H locs (F0 m 32 ls []) := by
  intro v1 v2 v3 σ H locs ls h hP hS hl
  unfold f_X10_symbol_32 at h
  obtain ⟨hC, hb, hml, hr, hlk, hD, hSW⟩ := id hF
  have hx := hC.1
  refine lv_iload_n hx hb dX10_symbol_32 rfl (lv_at hl 2 rfl) ?_
  refine lv_bipush (v := 60) hx hb dX10_symbol_33 (by decide) ?_
  refine lv_icmp_ne (tgt := 48) hx hb dX10_symbol_35 (by decide) (fun c1 => ?_) (fun c1 => ?_)
  · have h := of_f h c1
    exact t_X10_symbol_48 hX  hF v1 v2 v3 σ _ _ _ h hP hS (lv_sub hl [0, 1, 2, 3] rfl)
  · have h := of_t h c1
    refine lv_iload_n hx hb dX10_symbol_38 rfl (lv_at hl 3 rfl) ?_
    refine lv_bipush (v := 62) hx hb dX10_symbol_39 (by decide) ?_
    refine lv_icmp_ne (tgt := 48) hx hb dX10_symbol_41 (by decide) (fun c2 => ?_) (fun c2 => ?_)
    · have h := of_f h c2
      exact t_X10_symbol_48 hX  hF v1 v2 v3 σ _ _ _ h hP hS (lv_sub hl [0, 1, 2, 3] rfl)
    · have h := of_t h c2
      exact t_X10_symbol_44 hX  hF v1 v2 v3 σ _ _ _ h hP hS (lv_sub hl [0, 1, 2, 3] rfl)

def f_X10_symbol_26 (v1 : Int32) (v2 : Int32) (v3 : Int32) (σ : Sta) : Option (Int32 × Sta) :=
  if v3 = 61 then
    f_X10_symbol_44 v1 v2 v3 σ
  else
    f_X10_symbol_32 v1 v2 v3 σ
set_option maxHeartbeats 4000000 in
set_option maxRecDepth 100000 in
theorem t_X10_symbol_26 {l : Launch} {D : va_G} {Y : CYs} {E : Nat → Nat} {X : List Dsc} (hX : Lok (LM ++ X)) {p : Program} {e : Env} {s : State} {m : MethodId} {args : Array Value} {below : List Frame} {meth : Method} {c : Code} (hF : Fr p s m args meth c RX10 cX10_symbol 6 (some .int) D Y E (LM ++ X)) {o : Int32 × Sta} : ∀ (v1 : Int32) (v2 : Int32) (v3 : Int32) (σ : Sta) (H : Heap) (locs : List Loc) (ls : Array Slot), f_X10_symbol_26 v1 v2 v3 σ = some o → va_P D vwCl (wd Y E σ 0 (LM ++ X)) H → va_S (AF E (LM ++ X).length s.heap.size) s.heap H locs → lv_has ls 6 [(0, .ref (E 0)), (1, .int v1), (2, .int v2), (3, .int v3)] → WI p l e rm_X10_symbol s m args below meth c (LM ++ X) Y D E o H locs (F0 m 26 ls []) := by
  intro v1 v2 v3 σ H locs ls h hP hS hl
  unfold f_X10_symbol_26 at h
  obtain ⟨hC, hb, hml, hr, hlk, hD, hSW⟩ := id hF
  have hx := hC.1
  refine lv_iload_n hx hb dX10_symbol_26 rfl (lv_at hl 3 rfl) ?_
  refine lv_bipush (v := 61) hx hb dX10_symbol_27 (by decide) ?_
  refine lv_icmp_eq (tgt := 44) hx hb dX10_symbol_29 (by decide) (fun c1 => ?_) (fun c1 => ?_)
  · have h := of_t h c1
    exact t_X10_symbol_44 hX  hF v1 v2 v3 σ _ _ _ h hP hS (lv_sub hl [0, 1, 2, 3] rfl)
  · have h := of_f h c1
    exact t_X10_symbol_32 hX  hF v1 v2 v3 σ _ _ _ h hP hS (lv_sub hl [0, 1, 2, 3] rfl)

def f_X10_symbol (a1 : Int32) (σ : Sta) : Option (Int32 × Sta) :=
  bnd (f_X10_byteAt a1 σ) (fun r1 σ2 =>
  bnd (f_X10_byteAt (a1 + 1) σ2) (fun r4 σ5 =>
  if r1 = 60 then
    f_X10_symbol_26 a1 r1 r4 σ5
  else
    if r1 = 62 then
      f_X10_symbol_26 a1 r1 r4 σ5
    else
      f_X10_symbol_32 a1 r1 r4 σ5))
set_option maxHeartbeats 4000000 in
set_option maxRecDepth 100000 in
theorem c_X10_symbol {l : Launch} {D : va_G} {Y : CYs} {E : Nat → Nat} {X : List Dsc} (hX : Lok (LM ++ X)) {a1 : Int32} {σ : Sta} {o : Int32 × Sta} (h : f_X10_symbol a1 σ = some o) : MI l yX10_symbol (Cond.code yX10_symbol cX10_symbol 6 (some .int) :: gW) rm_X10_symbol (LM ++ X) Y D E [.ref (E 0), .int a1] σ o := by
  intro sz
  refine Met_of (Qc := fun sz => QI (LM ++ X) Y D E sz o) (by decide) (Nat.le_of_ble_eq_true rfl) (fun p e s m args below meth c hF hP ls hl => ?_) sz
  have hS : va_S (AF E (LM ++ X).length s.heap.size) s.heap s.heap [] := va_S.rf
  have hl : lv_has ls 6 [(0, .ref (E 0)), (1, .int a1)] := hl
  show WI p l e rm_X10_symbol s m args below meth c (LM ++ X) Y D E o s.heap [] (F0 m 0 ls [])
  unfold f_X10_symbol at h
  obtain ⟨hC, hb, hml, hr, hlk, hD, hSW⟩ := id hF
  have hx := hC.1
  refine lv_aload_n hx hb dX10_symbol_0 rfl (lv_at hl 0 rfl) ?_
  refine lv_iload_n hx hb dX10_symbol_1 rfl (lv_at hl 1 rfl) ?_
  obtain ⟨r1, σ2, g3, h⟩ := of_bnd h
  refine x_VI (As := [.int a1]) (rest := []) hF hl hP hS (c_X10_byteAt hX g3) (cw_X10_169 hC rfl rfl ⟨Nat.le_of_ble_eq_true rfl, Nat.le_of_ble_eq_true rfl⟩) (lm_0 X) rfl rfl rfl (Nat.le_of_ble_eq_true rfl) dX10_symbol_2 ⟨Nat.zero_le _, Nat.zero_le _⟩ (fun H locs hP hS => ?_)
  refine lv_istore_n (lv' := [(2, .int r1), (0, .ref (E 0)), (1, .int a1)]) hx hb dX10_symbol_5 rfl hl (by decide) rfl (fun ls hl => ?_)
  refine lv_aload_n hx hb dX10_symbol_6 rfl (lv_at hl 1 rfl) ?_
  refine lv_iload_n hx hb dX10_symbol_7 rfl (lv_at hl 2 rfl) ?_
  refine lv_iconst (v := 1) hx hb dX10_symbol_8 (by decide) ?_
  refine lv_iadd hx hb dX10_symbol_9 ?_
  obtain ⟨r4, σ5, g6, h⟩ := of_bnd h
  refine x_VI (As := [.int (a1 + 1)]) (rest := []) hF hl hP hS (c_X10_byteAt hX g6) (cw_X10_169 hC rfl rfl ⟨Nat.le_of_ble_eq_true rfl, Nat.le_of_ble_eq_true rfl⟩) (lm_0 X) rfl rfl rfl (Nat.le_of_ble_eq_true rfl) dX10_symbol_10 ⟨Nat.zero_le _, Nat.zero_le _⟩ (fun H locs hP hS => ?_)
  refine lv_istore_n (lv' := [(3, .int r4), (2, .int r1), (0, .ref (E 0)), (1, .int a1)]) hx hb dX10_symbol_13 rfl hl (by decide) rfl (fun ls hl => ?_)
  refine lv_iload_n hx hb dX10_symbol_14 rfl (lv_at hl 1 rfl) ?_
  refine lv_bipush (v := 60) hx hb dX10_symbol_15 (by decide) ?_
  refine lv_icmp_eq (tgt := 26) hx hb dX10_symbol_17 (by decide) (fun c7 => ?_) (fun c7 => ?_)
  · have h := of_t h c7
    exact t_X10_symbol_26 hX  hF a1 r1 r4 σ5 _ _ _ h hP hS (lv_sub hl [2, 3, 1, 0] rfl)
  · have h := of_f h c7
    refine lv_iload_n hx hb dX10_symbol_20 rfl (lv_at hl 1 rfl) ?_
    refine lv_bipush (v := 62) hx hb dX10_symbol_21 (by decide) ?_
    refine lv_icmp_ne (tgt := 32) hx hb dX10_symbol_23 (by decide) (fun c8 => ?_) (fun c8 => ?_)
    · have h := of_f h c8
      exact t_X10_symbol_32 hX  hF a1 r1 r4 σ5 _ _ _ h hP hS (lv_sub hl [2, 3, 1, 0] rfl)
    · have h := of_t h c8
      exact t_X10_symbol_26 hX  hF a1 r1 r4 σ5 _ _ _ h hP hS (lv_sub hl [2, 3, 1, 0] rfl)

abbrev rm_X10_cutTokens : Room := { frames := 5, cells := 0, slots := 0, locals := 118 }
def f_X10_cutTokens_51 (k7 : Int32 → Sta → Option (Unit × Sta)) (k31 : Int32 → Sta → Option (Unit × Sta)) (v1 : Int32) (σ : Sta) : Option (Unit × Sta) :=
  lt (v1 + 1) (fun x1 =>
  k31 x1 σ)
set_option maxHeartbeats 4000000 in
set_option maxRecDepth 100000 in
theorem t_X10_cutTokens_51 {l : Launch} {D : va_G} {Y : CYs} {E : Nat → Nat} {X : List Dsc} (hX : Lok (LM ++ X)) {p : Program} {e : Env} {s : State} {m : MethodId} {args : Array Value} {below : List Frame} {meth : Method} {c : Code} (hF : Fr p s m args meth c RX10 cX10_cutTokens 7 none D Y E (LM ++ X)) {o : Unit × Sta} (k7 : Int32 → Sta → Option (Unit × Sta)) (k31 : Int32 → Sta → Option (Unit × Sta)) (hk7 : ∀ (v1 : Int32) (σ : Sta) (H : Heap) (locs : List Loc) (ls : Array Slot), k7 v1 σ = some o → va_P D vwCl (wd Y E σ 0 (LM ++ X)) H → va_S (AF E (LM ++ X).length s.heap.size) s.heap H locs → lv_has ls 7 [(0, .ref (E 0)), (1, .int v1)] → WV p l e rm_X10_cutTokens s m args below meth c (LM ++ X) Y D E o H locs (F0 m 7 ls [])) (hk31 : ∀ (v1 : Int32) (σ : Sta) (H : Heap) (locs : List Loc) (ls : Array Slot), k31 v1 σ = some o → va_P D vwCl (wd Y E σ 0 (LM ++ X)) H → va_S (AF E (LM ++ X).length s.heap.size) s.heap H locs → lv_has ls 7 [(0, .ref (E 0)), (1, .int v1)] → WV p l e rm_X10_cutTokens s m args below meth c (LM ++ X) Y D E o H locs (F0 m 31 ls [])) : ∀ (v1 : Int32) (σ : Sta) (H : Heap) (locs : List Loc) (ls : Array Slot), f_X10_cutTokens_51 k7 k31 v1 σ = some o → va_P D vwCl (wd Y E σ 0 (LM ++ X)) H → va_S (AF E (LM ++ X).length s.heap.size) s.heap H locs → lv_has ls 7 [(0, .ref (E 0)), (1, .int v1)] → WV p l e rm_X10_cutTokens s m args below meth c (LM ++ X) Y D E o H locs (F0 m 51 ls []) := by
  intro v1 σ H locs ls h hP hS hl
  unfold f_X10_cutTokens_51 at h
  obtain ⟨hC, hb, hml, hr, hlk, hD, hSW⟩ := id hF
  have hx := hC.1
  obtain ⟨x1, ex1⟩ : ∃ y : Int32, y = v1 + 1 := ⟨_, rfl⟩
  have h := of_lt h ex1
  refine lv_iinc (v := x1) (lv' := [(1, .int x1), (0, .ref (E 0))]) hx hb dX10_cutTokens_51 hl (k := 1) rfl (by rw [ex1]; rfl) (by decide) rfl (fun ls hl => ?_)
  refine lv_goto (tgt := 31) hx hb dX10_cutTokens_54 (by decide) ?_
  exact hk31 x1 σ _ _ _ h hP hS (lv_sub hl [1, 0] rfl)

def f_X10_cutTokens_117 (k7 : Int32 → Sta → Option (Unit × Sta)) (k95 : Int32 → Int32 → Int64 → Sta → Option (Unit × Sta)) (v1 : Int32) (v3 : Int32) (v4 : Int64) (σ : Sta) : Option (Unit × Sta) :=
  bnd (f_X10_byteAt v1 σ) (fun r1 σ2 =>
  lt ((v4 <<< ((8 : Int32).toInt64 &&& 63)) ||| r1.toInt64) (fun x4 =>
  lt (v1 + 1) (fun x5 =>
  k95 x5 v3 x4 σ2)))
set_option maxHeartbeats 4000000 in
set_option maxRecDepth 100000 in
theorem t_X10_cutTokens_117 {l : Launch} {D : va_G} {Y : CYs} {E : Nat → Nat} {X : List Dsc} (hX : Lok (LM ++ X)) {p : Program} {e : Env} {s : State} {m : MethodId} {args : Array Value} {below : List Frame} {meth : Method} {c : Code} (hF : Fr p s m args meth c RX10 cX10_cutTokens 7 none D Y E (LM ++ X)) {o : Unit × Sta} (k7 : Int32 → Sta → Option (Unit × Sta)) (k95 : Int32 → Int32 → Int64 → Sta → Option (Unit × Sta)) (hk7 : ∀ (v1 : Int32) (σ : Sta) (H : Heap) (locs : List Loc) (ls : Array Slot), k7 v1 σ = some o → va_P D vwCl (wd Y E σ 0 (LM ++ X)) H → va_S (AF E (LM ++ X).length s.heap.size) s.heap H locs → lv_has ls 7 [(0, .ref (E 0)), (1, .int v1)] → WV p l e rm_X10_cutTokens s m args below meth c (LM ++ X) Y D E o H locs (F0 m 7 ls [])) (hk95 : ∀ (v1 : Int32) (v3 : Int32) (v4 : Int64) (σ : Sta) (H : Heap) (locs : List Loc) (ls : Array Slot), k95 v1 v3 v4 σ = some o → va_P D vwCl (wd Y E σ 0 (LM ++ X)) H → va_S (AF E (LM ++ X).length s.heap.size) s.heap H locs → lv_has ls 7 [(0, .ref (E 0)), (1, .int v1), (3, .int v3), (4, .long v4)] → WV p l e rm_X10_cutTokens s m args below meth c (LM ++ X) Y D E o H locs (F0 m 95 ls [])) : ∀ (v1 : Int32) (v3 : Int32) (v4 : Int64) (σ : Sta) (H : Heap) (locs : List Loc) (ls : Array Slot), f_X10_cutTokens_117 k7 k95 v1 v3 v4 σ = some o → va_P D vwCl (wd Y E σ 0 (LM ++ X)) H → va_S (AF E (LM ++ X).length s.heap.size) s.heap H locs → lv_has ls 7 [(0, .ref (E 0)), (1, .int v1), (3, .int v3), (4, .long v4)] → WV p l e rm_X10_cutTokens s m args below meth c (LM ++ X) Y D E o H locs (F0 m 117 ls []) := by
  intro v1 v3 v4 σ H locs ls h hP hS hl
  unfold f_X10_cutTokens_117 at h
  obtain ⟨hC, hb, hml, hr, hlk, hD, hSW⟩ := id hF
  have hx := hC.1
  refine lv_lload hx hb dX10_cutTokens_117 (lv_at hl 3 rfl) ?_
  refine lv_bipush (v := 8) hx hb dX10_cutTokens_119 (by decide) ?_
  refine lv_lshl (v := v4 <<< ((8 : Int32).toInt64 &&& 63)) hx hb dX10_cutTokens_121 rfl ?_
  refine lv_aload_n hx hb dX10_cutTokens_122 rfl (lv_at hl 0 rfl) ?_
  refine lv_iload_n hx hb dX10_cutTokens_123 rfl (lv_at hl 1 rfl) ?_
  obtain ⟨r1, σ2, g3, h⟩ := of_bnd h
  refine x_VI (As := [.int v1]) (rest := [.long (v4 <<< ((8 : Int32).toInt64 &&& 63))]) hF hl hP hS (c_X10_byteAt hX g3) (cw_X10_169 hC rfl rfl ⟨Nat.le_of_ble_eq_true rfl, Nat.le_of_ble_eq_true rfl⟩) (lm_0 X) rfl rfl rfl (Nat.le_of_ble_eq_true rfl) dX10_cutTokens_124 ⟨Nat.zero_le _, Nat.zero_le _⟩ (fun H locs hP hS => ?_)
  refine lv_i2l (v := r1.toInt64) hx hb dX10_cutTokens_127 rfl ?_
  refine lv_lor hx hb dX10_cutTokens_128 ?_
  refine lv_topl (fun x4 ex4 => ?_)
  have h := of_lt h ex4
  refine lv_lstore (lv' := [(4, .long x4), (0, .ref (E 0)), (1, .int v1), (3, .int v3)]) hx hb dX10_cutTokens_129 hl (by decide) rfl (fun ls hl => ?_)
  obtain ⟨x5, ex5⟩ : ∃ y : Int32, y = v1 + 1 := ⟨_, rfl⟩
  have h := of_lt h ex5
  refine lv_iinc (v := x5) (lv' := [(1, .int x5), (4, .long x4), (0, .ref (E 0)), (3, .int v3)]) hx hb dX10_cutTokens_131 hl (k := 2) rfl (by rw [ex5]; rfl) (by decide) rfl (fun ls hl => ?_)
  refine lv_goto (tgt := 95) hx hb dX10_cutTokens_134 (by decide) ?_
  exact hk95 x5 v3 x4 σ2 _ _ _ h hP hS (lv_sub hl [2, 0, 3, 1] rfl)

def f_X10_cutTokens_279 (k7 : Int32 → Sta → Option (Unit × Sta)) (v1 : Int32) (σ : Sta) : Option (Unit × Sta) :=
  k7 v1 σ
set_option maxHeartbeats 4000000 in
set_option maxRecDepth 100000 in
theorem t_X10_cutTokens_279 {l : Launch} {D : va_G} {Y : CYs} {E : Nat → Nat} {X : List Dsc} (hX : Lok (LM ++ X)) {p : Program} {e : Env} {s : State} {m : MethodId} {args : Array Value} {below : List Frame} {meth : Method} {c : Code} (hF : Fr p s m args meth c RX10 cX10_cutTokens 7 none D Y E (LM ++ X)) {o : Unit × Sta} (k7 : Int32 → Sta → Option (Unit × Sta)) (hk7 : ∀ (v1 : Int32) (σ : Sta) (H : Heap) (locs : List Loc) (ls : Array Slot), k7 v1 σ = some o → va_P D vwCl (wd Y E σ 0 (LM ++ X)) H → va_S (AF E (LM ++ X).length s.heap.size) s.heap H locs → lv_has ls 7 [(0, .ref (E 0)), (1, .int v1)] → WV p l e rm_X10_cutTokens s m args below meth c (LM ++ X) Y D E o H locs (F0 m 7 ls [])) : ∀ (v1 : Int32) (σ : Sta) (H : Heap) (locs : List Loc) (ls : Array Slot), f_X10_cutTokens_279 k7 v1 σ = some o → va_P D vwCl (wd Y E σ 0 (LM ++ X)) H → va_S (AF E (LM ++ X).length s.heap.size) s.heap H locs → lv_has ls 7 [(0, .ref (E 0)), (1, .int v1)] → WV p l e rm_X10_cutTokens s m args below meth c (LM ++ X) Y D E o H locs (F0 m 279 ls []) := by
  intro v1 σ H locs ls h hP hS hl
  unfold f_X10_cutTokens_279 at h
  obtain ⟨hC, hb, hml, hr, hlk, hD, hSW⟩ := id hF
  have hx := hC.1
  refine lv_goto (tgt := 7) hx hb dX10_cutTokens_279 (by decide) ?_
  exact hk7 v1 σ _ _ _ h hP hS (lv_sub hl [0, 1] rfl)

def f_X10_cutTokens_182 (k7 : Int32 → Sta → Option (Unit × Sta)) (v1 : Int32) (v3 : Int32) (v4 : Int64) (s0 : Int32) (σ : Sta) : Option (Unit × Sta) :=
  bnd (f_X10_token s0 v3 v4 σ) (fun _ σ2 =>
  f_X10_cutTokens_279 k7 v1 σ2)
set_option maxHeartbeats 4000000 in
set_option maxRecDepth 100000 in
theorem t_X10_cutTokens_182 {l : Launch} {D : va_G} {Y : CYs} {E : Nat → Nat} {X : List Dsc} (hX : Lok (LM ++ X)) {p : Program} {e : Env} {s : State} {m : MethodId} {args : Array Value} {below : List Frame} {meth : Method} {c : Code} (hF : Fr p s m args meth c RX10 cX10_cutTokens 7 none D Y E (LM ++ X)) {o : Unit × Sta} (k7 : Int32 → Sta → Option (Unit × Sta)) (hk7 : ∀ (v1 : Int32) (σ : Sta) (H : Heap) (locs : List Loc) (ls : Array Slot), k7 v1 σ = some o → va_P D vwCl (wd Y E σ 0 (LM ++ X)) H → va_S (AF E (LM ++ X).length s.heap.size) s.heap H locs → lv_has ls 7 [(0, .ref (E 0)), (1, .int v1)] → WV p l e rm_X10_cutTokens s m args below meth c (LM ++ X) Y D E o H locs (F0 m 7 ls [])) : ∀ (v1 : Int32) (v3 : Int32) (v4 : Int64) (s0 : Int32) (σ : Sta) (H : Heap) (locs : List Loc) (ls : Array Slot), f_X10_cutTokens_182 k7 v1 v3 v4 s0 σ = some o → va_P D vwCl (wd Y E σ 0 (LM ++ X)) H → va_S (AF E (LM ++ X).length s.heap.size) s.heap H locs → lv_has ls 7 [(0, .ref (E 0)), (1, .int v1), (3, .int v3), (4, .long v4)] → WV p l e rm_X10_cutTokens s m args below meth c (LM ++ X) Y D E o H locs (F0 m 182 ls [.int s0, .ref (E 0)]) := by
  intro v1 v3 v4 s0 σ H locs ls h hP hS hl
  unfold f_X10_cutTokens_182 at h
  obtain ⟨hC, hb, hml, hr, hlk, hD, hSW⟩ := id hF
  have hx := hC.1
  refine lv_iload_n hx hb dX10_cutTokens_182 rfl (lv_at hl 2 rfl) ?_
  refine lv_lload hx hb dX10_cutTokens_183 (lv_at hl 3 rfl) ?_
  obtain ⟨r1, σ2, g3, h⟩ := of_bnd h
  refine x_VV (As := [.int s0, .int v3, .long v4]) (rest := []) hF hl hP hS (c_X10_token hX g3) (cw_X10_172 hC rfl rfl ⟨Nat.le_of_ble_eq_true rfl, Nat.le_of_ble_eq_true rfl⟩) (lm_0 X) rfl rfl rfl (Nat.le_of_ble_eq_true rfl) dX10_cutTokens_185 ⟨Nat.zero_le _, Nat.zero_le _⟩ (fun H locs hP hS => ?_)
  refine lv_goto (tgt := 279) hx hb dX10_cutTokens_188 (by decide) ?_
  exact t_X10_cutTokens_279 hX  hF k7 hk7 v1 σ2 _ _ _ h hP hS (lv_sub hl [0, 1] rfl)

def f_X10_cutTokens_95 (k7 : Int32 → Sta → Option (Unit × Sta)) : Nat → Int32 → Int32 → Int64 → Sta → Option (Unit × Sta)
  | 0, _, _, _, _ => none
  | n + 1, v1, v3, v4, σ => bnd (f_X10_byteAt v1 σ) (fun r1 σ2 =>
    bnd (f_X10_isLetter r1 σ2) (fun r4 σ5 =>
    if r4 = 0 then
      bnd (f_X10_byteAt v1 σ5) (fun r8 σ9 =>
      bnd (f_X10_isDigit r8 σ9) (fun r11 σ12 =>
      if r11 = 0 then
        bnd (f_X10_indexOf 1 17 17 v4 σ12) (fun r15 σ16 =>
        if v1 - v3 ≤ 8 then
          if r15 = -1 then
            f_X10_cutTokens_182 k7 v1 v3 v4 200 σ16
          else
            f_X10_cutTokens_182 k7 v1 v3 v4 r15 σ16
        else
          f_X10_cutTokens_182 k7 v1 v3 v4 203 σ16)
      else
        f_X10_cutTokens_117 k7 (f_X10_cutTokens_95 k7 n) v1 v3 v4 σ12))
    else
      f_X10_cutTokens_117 k7 (f_X10_cutTokens_95 k7 n) v1 v3 v4 σ5))
set_option maxHeartbeats 4000000 in
set_option maxRecDepth 100000 in
theorem t_X10_cutTokens_95 {l : Launch} {D : va_G} {Y : CYs} {E : Nat → Nat} {X : List Dsc} (hX : Lok (LM ++ X)) {p : Program} {e : Env} {s : State} {m : MethodId} {args : Array Value} {below : List Frame} {meth : Method} {c : Code} (hF : Fr p s m args meth c RX10 cX10_cutTokens 7 none D Y E (LM ++ X)) {o : Unit × Sta} (k7 : Int32 → Sta → Option (Unit × Sta)) (hk7 : ∀ (v1 : Int32) (σ : Sta) (H : Heap) (locs : List Loc) (ls : Array Slot), k7 v1 σ = some o → va_P D vwCl (wd Y E σ 0 (LM ++ X)) H → va_S (AF E (LM ++ X).length s.heap.size) s.heap H locs → lv_has ls 7 [(0, .ref (E 0)), (1, .int v1)] → WV p l e rm_X10_cutTokens s m args below meth c (LM ++ X) Y D E o H locs (F0 m 7 ls [])) : ∀ (n : Nat) (v1 : Int32) (v3 : Int32) (v4 : Int64) (σ : Sta) (H : Heap) (locs : List Loc) (ls : Array Slot), f_X10_cutTokens_95 k7 n v1 v3 v4 σ = some o → va_P D vwCl (wd Y E σ 0 (LM ++ X)) H → va_S (AF E (LM ++ X).length s.heap.size) s.heap H locs → lv_has ls 7 [(0, .ref (E 0)), (1, .int v1), (3, .int v3), (4, .long v4)] → WV p l e rm_X10_cutTokens s m args below meth c (LM ++ X) Y D E o H locs (F0 m 95 ls []) := by
  intro n
  induction n with
  | zero =>
    intro v1 v3 v4 σ H locs ls h hP hS hl
    exact nomatch (show (none : Option (Unit × Sta)) = some o from h)
  | succ n ih =>
    intro v1 v3 v4 σ H locs ls h hP hS hl
    rw [f_X10_cutTokens_95] at h
    obtain ⟨hC, hb, hml, hr, hlk, hD, hSW⟩ := id hF
    have hx := hC.1
    refine lv_aload_n hx hb dX10_cutTokens_95 rfl (lv_at hl 0 rfl) ?_
    refine lv_iload_n hx hb dX10_cutTokens_96 rfl (lv_at hl 1 rfl) ?_
    obtain ⟨r1, σ2, g3, h⟩ := of_bnd h
    refine x_VI (As := [.int v1]) (rest := []) hF hl hP hS (c_X10_byteAt hX g3) (cw_X10_169 hC rfl rfl ⟨Nat.le_of_ble_eq_true rfl, Nat.le_of_ble_eq_true rfl⟩) (lm_0 X) rfl rfl rfl (Nat.le_of_ble_eq_true rfl) dX10_cutTokens_97 ⟨Nat.zero_le _, Nat.zero_le _⟩ (fun H locs hP hS => ?_)
    obtain ⟨r4, σ5, g6, h⟩ := of_bnd h
    refine x_SI (As := [.int r1]) (rest := []) hF hl hP hS (c_X10_isLetter hX g6) (cw_X10_176 hC rfl rfl ⟨Nat.le_of_ble_eq_true rfl, Nat.le_of_ble_eq_true rfl⟩) rfl rfl (Nat.le_of_ble_eq_true rfl) dX10_cutTokens_100 ⟨Nat.zero_le _, Nat.zero_le _⟩ (fun H locs hP hS => ?_)
    refine lv_if_ne (tgt := 117) hx hb dX10_cutTokens_103 (by decide) (fun c7 => ?_) (fun c7 => ?_)
    · have h := of_f h c7
      exact t_X10_cutTokens_117 hX  hF k7 (f_X10_cutTokens_95 k7 n) hk7 ih v1 v3 v4 σ5 _ _ _ h hP hS (lv_sub hl [0, 1, 2, 3] rfl)
    · have h := of_t h c7
      refine lv_aload_n hx hb dX10_cutTokens_106 rfl (lv_at hl 0 rfl) ?_
      refine lv_iload_n hx hb dX10_cutTokens_107 rfl (lv_at hl 1 rfl) ?_
      obtain ⟨r8, σ9, g10, h⟩ := of_bnd h
      refine x_VI (As := [.int v1]) (rest := []) hF hl hP hS (c_X10_byteAt hX g10) (cw_X10_169 hC rfl rfl ⟨Nat.le_of_ble_eq_true rfl, Nat.le_of_ble_eq_true rfl⟩) (lm_0 X) rfl rfl rfl (Nat.le_of_ble_eq_true rfl) dX10_cutTokens_108 ⟨Nat.zero_le _, Nat.zero_le _⟩ (fun H locs hP hS => ?_)
      obtain ⟨r11, σ12, g13, h⟩ := of_bnd h
      refine x_SI (As := [.int r8]) (rest := []) hF hl hP hS (c_X10_isDigit hX g13) (cw_X10_180 hC rfl rfl ⟨Nat.le_of_ble_eq_true rfl, Nat.le_of_ble_eq_true rfl⟩) rfl rfl (Nat.le_of_ble_eq_true rfl) dX10_cutTokens_111 ⟨Nat.zero_le _, Nat.zero_le _⟩ (fun H locs hP hS => ?_)
      refine lv_if_eq (tgt := 137) hx hb dX10_cutTokens_114 (by decide) (fun c14 => ?_) (fun c14 => ?_)
      · have h := of_t h c14
        refine lv_aload_n hx hb dX10_cutTokens_137 rfl (lv_at hl 0 rfl) ?_
        refine gf_X10_9 hC hb hP dX10_cutTokens_138 ?_
        refine lv_aload_n hx hb dX10_cutTokens_141 rfl (lv_at hl 0 rfl) ?_
        refine gf_X10_9 hC hb hP dX10_cutTokens_142 ?_
        refine x_alen (v := 17) hC hb hP (lm_1 X) (Or.inr (Or.inl rfl)) (by decide) dX10_cutTokens_145 ?_
        refine lv_lload hx hb dX10_cutTokens_146 (lv_at hl 3 rfl) ?_
        obtain ⟨r15, σ16, g17, h⟩ := of_bnd h
        refine x_SI (As := [.ref (E 1), .int 17, .long v4]) (rest := []) hF hl hP hS (c_X10_indexOf hX (lm_1 X) g17) (cw_X10_183 hC rfl rfl ⟨Nat.le_of_ble_eq_true rfl, Nat.le_of_ble_eq_true rfl⟩) rfl rfl (Nat.le_of_ble_eq_true rfl) dX10_cutTokens_148 ⟨Nat.zero_le _, Nat.zero_le _⟩ (fun H locs hP hS => ?_)
        refine lv_istore (lv' := [(6, .int r15), (0, .ref (E 0)), (1, .int v1), (3, .int v3), (4, .long v4)]) hx hb dX10_cutTokens_151 hl (by decide) rfl (fun ls hl => ?_)
        refine lv_aload_n hx hb dX10_cutTokens_153 rfl (lv_at hl 1 rfl) ?_
        refine lv_iload_n hx hb dX10_cutTokens_154 rfl (lv_at hl 2 rfl) ?_
        refine lv_iload_n hx hb dX10_cutTokens_155 rfl (lv_at hl 3 rfl) ?_
        refine lv_isub hx hb dX10_cutTokens_156 ?_
        refine lv_bipush (v := 8) hx hb dX10_cutTokens_157 (by decide) ?_
        refine lv_icmp_le (tgt := 168) hx hb dX10_cutTokens_159 (by decide) (fun c18 => ?_) (fun c18 => ?_)
        · have h := of_t h c18
          refine lv_iload hx hb dX10_cutTokens_168 (lv_at hl 0 rfl) ?_
          refine lv_iconst (v := -1) hx hb dX10_cutTokens_170 (by decide) ?_
          refine lv_icmp_ne (tgt := 180) hx hb dX10_cutTokens_171 (by decide) (fun c19 => ?_) (fun c19 => ?_)
          · have h := of_f h c19
            refine lv_iload hx hb dX10_cutTokens_180 (lv_at hl 0 rfl) ?_
            exact t_X10_cutTokens_182 hX  hF k7 hk7 v1 v3 v4 r15 σ16 _ _ _ h hP hS (lv_sub hl [1, 2, 3, 4] rfl)
          · have h := of_t h c19
            refine lv_sipush (v := 200) hx hb dX10_cutTokens_174 (by decide) ?_
            refine lv_goto (tgt := 182) hx hb dX10_cutTokens_177 (by decide) ?_
            exact t_X10_cutTokens_182 hX  hF k7 hk7 v1 v3 v4 200 σ16 _ _ _ h hP hS (lv_sub hl [1, 2, 3, 4] rfl)
        · have h := of_f h c18
          refine lv_sipush (v := 203) hx hb dX10_cutTokens_162 (by decide) ?_
          refine lv_goto (tgt := 182) hx hb dX10_cutTokens_165 (by decide) ?_
          exact t_X10_cutTokens_182 hX  hF k7 hk7 v1 v3 v4 203 σ16 _ _ _ h hP hS (lv_sub hl [1, 2, 3, 4] rfl)
      · have h := of_f h c14
        exact t_X10_cutTokens_117 hX  hF k7 (f_X10_cutTokens_95 k7 n) hk7 ih v1 v3 v4 σ12 _ _ _ h hP hS (lv_sub hl [0, 1, 2, 3] rfl)

def f_X10_cutTokens_238 (k7 : Int32 → Sta → Option (Unit × Sta)) (k198 : Int32 → Int32 → Int64 → Sta → Option (Unit × Sta)) (v1 : Int32) (v3 : Int32) (s0 : Int64) (σ : Sta) : Option (Unit × Sta) :=
  lt (v1 + 1) (fun x1 =>
  k198 x1 v3 s0 σ)
set_option maxHeartbeats 4000000 in
set_option maxRecDepth 100000 in
theorem t_X10_cutTokens_238 {l : Launch} {D : va_G} {Y : CYs} {E : Nat → Nat} {X : List Dsc} (hX : Lok (LM ++ X)) {p : Program} {e : Env} {s : State} {m : MethodId} {args : Array Value} {below : List Frame} {meth : Method} {c : Code} (hF : Fr p s m args meth c RX10 cX10_cutTokens 7 none D Y E (LM ++ X)) {o : Unit × Sta} (k7 : Int32 → Sta → Option (Unit × Sta)) (k198 : Int32 → Int32 → Int64 → Sta → Option (Unit × Sta)) (hk7 : ∀ (v1 : Int32) (σ : Sta) (H : Heap) (locs : List Loc) (ls : Array Slot), k7 v1 σ = some o → va_P D vwCl (wd Y E σ 0 (LM ++ X)) H → va_S (AF E (LM ++ X).length s.heap.size) s.heap H locs → lv_has ls 7 [(0, .ref (E 0)), (1, .int v1)] → WV p l e rm_X10_cutTokens s m args below meth c (LM ++ X) Y D E o H locs (F0 m 7 ls [])) (hk198 : ∀ (v1 : Int32) (v3 : Int32) (v4 : Int64) (σ : Sta) (H : Heap) (locs : List Loc) (ls : Array Slot), k198 v1 v3 v4 σ = some o → va_P D vwCl (wd Y E σ 0 (LM ++ X)) H → va_S (AF E (LM ++ X).length s.heap.size) s.heap H locs → lv_has ls 7 [(0, .ref (E 0)), (1, .int v1), (3, .int v3), (4, .long v4)] → WV p l e rm_X10_cutTokens s m args below meth c (LM ++ X) Y D E o H locs (F0 m 198 ls [])) : ∀ (v1 : Int32) (v3 : Int32) (s0 : Int64) (σ : Sta) (H : Heap) (locs : List Loc) (ls : Array Slot), f_X10_cutTokens_238 k7 k198 v1 v3 s0 σ = some o → va_P D vwCl (wd Y E σ 0 (LM ++ X)) H → va_S (AF E (LM ++ X).length s.heap.size) s.heap H locs → lv_has ls 7 [(0, .ref (E 0)), (1, .int v1), (3, .int v3)] → WV p l e rm_X10_cutTokens s m args below meth c (LM ++ X) Y D E o H locs (F0 m 238 ls [.long s0]) := by
  intro v1 v3 s0 σ H locs ls h hP hS hl
  unfold f_X10_cutTokens_238 at h
  obtain ⟨hC, hb, hml, hr, hlk, hD, hSW⟩ := id hF
  have hx := hC.1
  refine lv_lstore (lv' := [(4, .long s0), (0, .ref (E 0)), (1, .int v1), (3, .int v3)]) hx hb dX10_cutTokens_238 hl (by decide) rfl (fun ls hl => ?_)
  obtain ⟨x1, ex1⟩ : ∃ y : Int32, y = v1 + 1 := ⟨_, rfl⟩
  have h := of_lt h ex1
  refine lv_iinc (v := x1) (lv' := [(1, .int x1), (4, .long s0), (0, .ref (E 0)), (3, .int v3)]) hx hb dX10_cutTokens_240 hl (k := 2) rfl (by rw [ex1]; rfl) (by decide) rfl (fun ls hl => ?_)
  refine lv_goto (tgt := 198) hx hb dX10_cutTokens_243 (by decide) ?_
  exact hk198 x1 v3 s0 σ _ _ _ h hP hS (lv_sub hl [2, 0, 3, 1] rfl)

def f_X10_cutTokens_264 (k7 : Int32 → Sta → Option (Unit × Sta)) (v1 : Int32) (v3 : Int32) (v4 : Int64) (s0 : Int32) (σ : Sta) : Option (Unit × Sta) :=
  bnd (f_X10_token s0 v3 v4 σ) (fun _ σ2 =>
  f_X10_cutTokens_279 k7 v1 σ2)
set_option maxHeartbeats 4000000 in
set_option maxRecDepth 100000 in
theorem t_X10_cutTokens_264 {l : Launch} {D : va_G} {Y : CYs} {E : Nat → Nat} {X : List Dsc} (hX : Lok (LM ++ X)) {p : Program} {e : Env} {s : State} {m : MethodId} {args : Array Value} {below : List Frame} {meth : Method} {c : Code} (hF : Fr p s m args meth c RX10 cX10_cutTokens 7 none D Y E (LM ++ X)) {o : Unit × Sta} (k7 : Int32 → Sta → Option (Unit × Sta)) (hk7 : ∀ (v1 : Int32) (σ : Sta) (H : Heap) (locs : List Loc) (ls : Array Slot), k7 v1 σ = some o → va_P D vwCl (wd Y E σ 0 (LM ++ X)) H → va_S (AF E (LM ++ X).length s.heap.size) s.heap H locs → lv_has ls 7 [(0, .ref (E 0)), (1, .int v1)] → WV p l e rm_X10_cutTokens s m args below meth c (LM ++ X) Y D E o H locs (F0 m 7 ls [])) : ∀ (v1 : Int32) (v3 : Int32) (v4 : Int64) (s0 : Int32) (σ : Sta) (H : Heap) (locs : List Loc) (ls : Array Slot), f_X10_cutTokens_264 k7 v1 v3 v4 s0 σ = some o → va_P D vwCl (wd Y E σ 0 (LM ++ X)) H → va_S (AF E (LM ++ X).length s.heap.size) s.heap H locs → lv_has ls 7 [(0, .ref (E 0)), (1, .int v1), (3, .int v3), (4, .long v4)] → WV p l e rm_X10_cutTokens s m args below meth c (LM ++ X) Y D E o H locs (F0 m 264 ls [.int s0, .ref (E 0)]) := by
  intro v1 v3 v4 s0 σ H locs ls h hP hS hl
  unfold f_X10_cutTokens_264 at h
  obtain ⟨hC, hb, hml, hr, hlk, hD, hSW⟩ := id hF
  have hx := hC.1
  refine lv_iload_n hx hb dX10_cutTokens_264 rfl (lv_at hl 2 rfl) ?_
  refine lv_lload hx hb dX10_cutTokens_265 (lv_at hl 3 rfl) ?_
  obtain ⟨r1, σ2, g3, h⟩ := of_bnd h
  refine x_VV (As := [.int s0, .int v3, .long v4]) (rest := []) hF hl hP hS (c_X10_token hX g3) (cw_X10_172 hC rfl rfl ⟨Nat.le_of_ble_eq_true rfl, Nat.le_of_ble_eq_true rfl⟩) (lm_0 X) rfl rfl rfl (Nat.le_of_ble_eq_true rfl) dX10_cutTokens_267 ⟨Nat.zero_le _, Nat.zero_le _⟩ (fun H locs hP hS => ?_)
  refine lv_goto (tgt := 279) hx hb dX10_cutTokens_270 (by decide) ?_
  exact t_X10_cutTokens_279 hX  hF k7 hk7 v1 σ2 _ _ _ h hP hS (lv_sub hl [0, 1] rfl)

def f_X10_cutTokens_198 (k7 : Int32 → Sta → Option (Unit × Sta)) : Nat → Int32 → Int32 → Int64 → Sta → Option (Unit × Sta)
  | 0, _, _, _, _ => none
  | n + 1, v1, v3, v4, σ => bnd (f_X10_byteAt v1 σ) (fun r1 σ2 =>
    bnd (f_X10_isDigit r1 σ2) (fun r4 σ5 =>
    if r4 = 0 then
      if v1 - v3 ≤ 6 then
        f_X10_cutTokens_264 k7 v1 v3 v4 201 σ5
      else
        f_X10_cutTokens_264 k7 v1 v3 v4 203 σ5
    else
      if 6 ≤ v1 - v3 then
        f_X10_cutTokens_238 k7 (f_X10_cutTokens_198 k7 n) v1 v3 0 σ5
      else
        bnd (f_X10_byteAt v1 σ5) (fun r10 σ11 =>
        f_X10_cutTokens_238 k7 (f_X10_cutTokens_198 k7 n) v1 v3 (((10 * v4) + r10.toInt64) - 48) σ11)))
set_option maxHeartbeats 4000000 in
set_option maxRecDepth 100000 in
theorem t_X10_cutTokens_198 {l : Launch} {D : va_G} {Y : CYs} {E : Nat → Nat} {X : List Dsc} (hX : Lok (LM ++ X)) {p : Program} {e : Env} {s : State} {m : MethodId} {args : Array Value} {below : List Frame} {meth : Method} {c : Code} (hF : Fr p s m args meth c RX10 cX10_cutTokens 7 none D Y E (LM ++ X)) {o : Unit × Sta} (k7 : Int32 → Sta → Option (Unit × Sta)) (hk7 : ∀ (v1 : Int32) (σ : Sta) (H : Heap) (locs : List Loc) (ls : Array Slot), k7 v1 σ = some o → va_P D vwCl (wd Y E σ 0 (LM ++ X)) H → va_S (AF E (LM ++ X).length s.heap.size) s.heap H locs → lv_has ls 7 [(0, .ref (E 0)), (1, .int v1)] → WV p l e rm_X10_cutTokens s m args below meth c (LM ++ X) Y D E o H locs (F0 m 7 ls [])) : ∀ (n : Nat) (v1 : Int32) (v3 : Int32) (v4 : Int64) (σ : Sta) (H : Heap) (locs : List Loc) (ls : Array Slot), f_X10_cutTokens_198 k7 n v1 v3 v4 σ = some o → va_P D vwCl (wd Y E σ 0 (LM ++ X)) H → va_S (AF E (LM ++ X).length s.heap.size) s.heap H locs → lv_has ls 7 [(0, .ref (E 0)), (1, .int v1), (3, .int v3), (4, .long v4)] → WV p l e rm_X10_cutTokens s m args below meth c (LM ++ X) Y D E o H locs (F0 m 198 ls []) := by
  intro n
  induction n with
  | zero =>
    intro v1 v3 v4 σ H locs ls h hP hS hl
    exact nomatch (show (none : Option (Unit × Sta)) = some o from h)
  | succ n ih =>
    intro v1 v3 v4 σ H locs ls h hP hS hl
    rw [f_X10_cutTokens_198] at h
    obtain ⟨hC, hb, hml, hr, hlk, hD, hSW⟩ := id hF
    have hx := hC.1
    refine lv_aload_n hx hb dX10_cutTokens_198 rfl (lv_at hl 0 rfl) ?_
    refine lv_iload_n hx hb dX10_cutTokens_199 rfl (lv_at hl 1 rfl) ?_
    obtain ⟨r1, σ2, g3, h⟩ := of_bnd h
    refine x_VI (As := [.int v1]) (rest := []) hF hl hP hS (c_X10_byteAt hX g3) (cw_X10_169 hC rfl rfl ⟨Nat.le_of_ble_eq_true rfl, Nat.le_of_ble_eq_true rfl⟩) (lm_0 X) rfl rfl rfl (Nat.le_of_ble_eq_true rfl) dX10_cutTokens_200 ⟨Nat.zero_le _, Nat.zero_le _⟩ (fun H locs hP hS => ?_)
    obtain ⟨r4, σ5, g6, h⟩ := of_bnd h
    refine x_SI (As := [.int r1]) (rest := []) hF hl hP hS (c_X10_isDigit hX g6) (cw_X10_180 hC rfl rfl ⟨Nat.le_of_ble_eq_true rfl, Nat.le_of_ble_eq_true rfl⟩) rfl rfl (Nat.le_of_ble_eq_true rfl) dX10_cutTokens_203 ⟨Nat.zero_le _, Nat.zero_le _⟩ (fun H locs hP hS => ?_)
    refine lv_if_eq (tgt := 246) hx hb dX10_cutTokens_206 (by decide) (fun c7 => ?_) (fun c7 => ?_)
    · have h := of_t h c7
      refine lv_aload_n hx hb dX10_cutTokens_246 rfl (lv_at hl 0 rfl) ?_
      refine lv_iload_n hx hb dX10_cutTokens_247 rfl (lv_at hl 1 rfl) ?_
      refine lv_iload_n hx hb dX10_cutTokens_248 rfl (lv_at hl 2 rfl) ?_
      refine lv_isub hx hb dX10_cutTokens_249 ?_
      refine lv_bipush (v := 6) hx hb dX10_cutTokens_250 (by decide) ?_
      refine lv_icmp_le (tgt := 261) hx hb dX10_cutTokens_252 (by decide) (fun c8 => ?_) (fun c8 => ?_)
      · have h := of_t h c8
        refine lv_sipush (v := 201) hx hb dX10_cutTokens_261 (by decide) ?_
        exact t_X10_cutTokens_264 hX  hF k7 hk7 v1 v3 v4 201 σ5 _ _ _ h hP hS (lv_sub hl [0, 1, 2, 3] rfl)
      · have h := of_f h c8
        refine lv_sipush (v := 203) hx hb dX10_cutTokens_255 (by decide) ?_
        refine lv_goto (tgt := 264) hx hb dX10_cutTokens_258 (by decide) ?_
        exact t_X10_cutTokens_264 hX  hF k7 hk7 v1 v3 v4 203 σ5 _ _ _ h hP hS (lv_sub hl [0, 1, 2, 3] rfl)
    · have h := of_f h c7
      refine lv_iload_n hx hb dX10_cutTokens_209 rfl (lv_at hl 1 rfl) ?_
      refine lv_iload_n hx hb dX10_cutTokens_210 rfl (lv_at hl 2 rfl) ?_
      refine lv_isub hx hb dX10_cutTokens_211 ?_
      refine lv_bipush (v := 6) hx hb dX10_cutTokens_212 (by decide) ?_
      refine lv_icmp_ge (tgt := 237) hx hb dX10_cutTokens_214 (by decide) (fun c9 => ?_) (fun c9 => ?_)
      · have h := of_t h c9
        refine lv_lconst (v := 0) hx hb dX10_cutTokens_237 (by decide) ?_
        exact t_X10_cutTokens_238 hX  hF k7 (f_X10_cutTokens_198 k7 n) hk7 ih v1 v3 0 σ5 _ _ _ h hP hS (lv_sub hl [0, 1, 2] rfl)
      · have h := of_f h c9
        refine lv_ldc2 (v := 10) hx hb hC.2.2.1 (hC.2.1 (Cond.constantLong RX10 186 10) (gw_t (tb7 (List.mem_of_getElem? (i := 30) rfl)) rfl)) dX10_cutTokens_217 ?_
        refine lv_lload hx hb dX10_cutTokens_220 (lv_at hl 3 rfl) ?_
        refine lv_lmul hx hb dX10_cutTokens_222 ?_
        refine lv_aload_n hx hb dX10_cutTokens_223 rfl (lv_at hl 0 rfl) ?_
        refine lv_iload_n hx hb dX10_cutTokens_224 rfl (lv_at hl 1 rfl) ?_
        obtain ⟨r10, σ11, g12, h⟩ := of_bnd h
        refine x_VI (As := [.int v1]) (rest := [.long (10 * v4)]) hF hl hP hS (c_X10_byteAt hX g12) (cw_X10_169 hC rfl rfl ⟨Nat.le_of_ble_eq_true rfl, Nat.le_of_ble_eq_true rfl⟩) (lm_0 X) rfl rfl rfl (Nat.le_of_ble_eq_true rfl) dX10_cutTokens_225 ⟨Nat.zero_le _, Nat.zero_le _⟩ (fun H locs hP hS => ?_)
        refine lv_i2l (v := r10.toInt64) hx hb dX10_cutTokens_228 rfl ?_
        refine lv_ladd hx hb dX10_cutTokens_229 ?_
        refine lv_ldc2 (v := 48) hx hb hC.2.2.1 (hC.2.1 (Cond.constantLong RX10 162 48) (gw_t (tb7 (List.mem_of_getElem? (i := 25) rfl)) rfl)) dX10_cutTokens_230 ?_
        refine lv_lsub hx hb dX10_cutTokens_233 ?_
        refine lv_goto (tgt := 238) hx hb dX10_cutTokens_234 (by decide) ?_
        exact t_X10_cutTokens_238 hX  hF k7 (f_X10_cutTokens_198 k7 n) hk7 ih v1 v3 (((10 * v4) + r10.toInt64) - 48) σ11 _ _ _ h hP hS (lv_sub hl [0, 1, 2] rfl)

def f_X10_cutTokens_31 (k7 : Int32 → Sta → Option (Unit × Sta)) : Nat → Int32 → Sta → Option (Unit × Sta)
  | 0, _, _ => none
  | n + 1, v1, σ => bnd (f_X10_byteAt v1 σ) (fun r1 σ2 =>
    if r1 = 32 then
      f_X10_cutTokens_51 k7 (f_X10_cutTokens_31 k7 n) v1 σ2
    else
      bnd (f_X10_byteAt v1 σ2) (fun r5 σ6 =>
      if r5 = 10 then
        f_X10_cutTokens_51 k7 (f_X10_cutTokens_31 k7 n) v1 σ6
      else
        bnd (f_X10_byteAt v1 σ6) (fun r9 σ10 =>
        if r9 = -1 then
          bnd (f_X10_token 202 (gI σ10 3) 0 σ10) (fun _ σ25 =>
          f_X10_cutTokens_279 k7 v1 σ25)
        else
          bnd (f_X10_isLetter r9 σ10) (fun r13 σ14 =>
          if r13 = 0 then
            bnd (f_X10_isDigit r9 σ14) (fun r17 σ18 =>
            if r17 = 0 then
              bnd (f_X10_symbol v1 σ18) (fun r21 σ22 =>
              f_X10_cutTokens_279 k7 r21 σ22)
            else
              f_X10_cutTokens_198 k7 FU v1 v1 0 σ18)
          else
            f_X10_cutTokens_95 k7 FU v1 v1 0 σ14))))
set_option maxHeartbeats 4000000 in
set_option maxRecDepth 100000 in
theorem t_X10_cutTokens_31 {l : Launch} {D : va_G} {Y : CYs} {E : Nat → Nat} {X : List Dsc} (hX : Lok (LM ++ X)) {p : Program} {e : Env} {s : State} {m : MethodId} {args : Array Value} {below : List Frame} {meth : Method} {c : Code} (hF : Fr p s m args meth c RX10 cX10_cutTokens 7 none D Y E (LM ++ X)) {o : Unit × Sta} (k7 : Int32 → Sta → Option (Unit × Sta)) (hk7 : ∀ (v1 : Int32) (σ : Sta) (H : Heap) (locs : List Loc) (ls : Array Slot), k7 v1 σ = some o → va_P D vwCl (wd Y E σ 0 (LM ++ X)) H → va_S (AF E (LM ++ X).length s.heap.size) s.heap H locs → lv_has ls 7 [(0, .ref (E 0)), (1, .int v1)] → WV p l e rm_X10_cutTokens s m args below meth c (LM ++ X) Y D E o H locs (F0 m 7 ls [])) : ∀ (n : Nat) (v1 : Int32) (σ : Sta) (H : Heap) (locs : List Loc) (ls : Array Slot), f_X10_cutTokens_31 k7 n v1 σ = some o → va_P D vwCl (wd Y E σ 0 (LM ++ X)) H → va_S (AF E (LM ++ X).length s.heap.size) s.heap H locs → lv_has ls 7 [(0, .ref (E 0)), (1, .int v1)] → WV p l e rm_X10_cutTokens s m args below meth c (LM ++ X) Y D E o H locs (F0 m 31 ls []) := by
  intro n
  induction n with
  | zero =>
    intro v1 σ H locs ls h hP hS hl
    exact nomatch (show (none : Option (Unit × Sta)) = some o from h)
  | succ n ih =>
    intro v1 σ H locs ls h hP hS hl
    rw [f_X10_cutTokens_31] at h
    obtain ⟨hC, hb, hml, hr, hlk, hD, hSW⟩ := id hF
    have hx := hC.1
    refine lv_aload_n hx hb dX10_cutTokens_31 rfl (lv_at hl 0 rfl) ?_
    refine lv_iload_n hx hb dX10_cutTokens_32 rfl (lv_at hl 1 rfl) ?_
    obtain ⟨r1, σ2, g3, h⟩ := of_bnd h
    refine x_VI (As := [.int v1]) (rest := []) hF hl hP hS (c_X10_byteAt hX g3) (cw_X10_169 hC rfl rfl ⟨Nat.le_of_ble_eq_true rfl, Nat.le_of_ble_eq_true rfl⟩) (lm_0 X) rfl rfl rfl (Nat.le_of_ble_eq_true rfl) dX10_cutTokens_33 ⟨Nat.zero_le _, Nat.zero_le _⟩ (fun H locs hP hS => ?_)
    refine lv_bipush (v := 32) hx hb dX10_cutTokens_36 (by decide) ?_
    refine lv_icmp_eq (tgt := 51) hx hb dX10_cutTokens_38 (by decide) (fun c4 => ?_) (fun c4 => ?_)
    · have h := of_t h c4
      exact t_X10_cutTokens_51 hX  hF k7 (f_X10_cutTokens_31 k7 n) hk7 ih v1 σ2 _ _ _ h hP hS (lv_sub hl [0, 1] rfl)
    · have h := of_f h c4
      refine lv_aload_n hx hb dX10_cutTokens_41 rfl (lv_at hl 0 rfl) ?_
      refine lv_iload_n hx hb dX10_cutTokens_42 rfl (lv_at hl 1 rfl) ?_
      obtain ⟨r5, σ6, g7, h⟩ := of_bnd h
      refine x_VI (As := [.int v1]) (rest := []) hF hl hP hS (c_X10_byteAt hX g7) (cw_X10_169 hC rfl rfl ⟨Nat.le_of_ble_eq_true rfl, Nat.le_of_ble_eq_true rfl⟩) (lm_0 X) rfl rfl rfl (Nat.le_of_ble_eq_true rfl) dX10_cutTokens_43 ⟨Nat.zero_le _, Nat.zero_le _⟩ (fun H locs hP hS => ?_)
      refine lv_bipush (v := 10) hx hb dX10_cutTokens_46 (by decide) ?_
      refine lv_icmp_ne (tgt := 57) hx hb dX10_cutTokens_48 (by decide) (fun c8 => ?_) (fun c8 => ?_)
      · have h := of_f h c8
        refine lv_aload_n hx hb dX10_cutTokens_57 rfl (lv_at hl 0 rfl) ?_
        refine lv_iload_n hx hb dX10_cutTokens_58 rfl (lv_at hl 1 rfl) ?_
        obtain ⟨r9, σ10, g11, h⟩ := of_bnd h
        refine x_VI (As := [.int v1]) (rest := []) hF hl hP hS (c_X10_byteAt hX g11) (cw_X10_169 hC rfl rfl ⟨Nat.le_of_ble_eq_true rfl, Nat.le_of_ble_eq_true rfl⟩) (lm_0 X) rfl rfl rfl (Nat.le_of_ble_eq_true rfl) dX10_cutTokens_59 ⟨Nat.zero_le _, Nat.zero_le _⟩ (fun H locs hP hS => ?_)
        refine lv_istore_n (lv' := [(2, .int r9), (0, .ref (E 0)), (1, .int v1)]) hx hb dX10_cutTokens_62 rfl hl (by decide) rfl (fun ls hl => ?_)
        refine lv_iload_n hx hb dX10_cutTokens_63 rfl (lv_at hl 2 rfl) ?_
        refine lv_istore_n (lv' := [(3, .int v1), (2, .int r9), (0, .ref (E 0)), (1, .int v1)]) hx hb dX10_cutTokens_64 rfl hl (by decide) rfl (fun ls hl => ?_)
        refine lv_lconst (v := 0) hx hb dX10_cutTokens_65 (by decide) ?_
        refine lv_lstore (lv' := [(4, .long 0), (3, .int v1), (2, .int r9), (0, .ref (E 0)), (1, .int v1)]) hx hb dX10_cutTokens_66 hl (by decide) rfl (fun ls hl => ?_)
        refine lv_iload_n hx hb dX10_cutTokens_68 rfl (lv_at hl 2 rfl) ?_
        refine lv_iconst (v := -1) hx hb dX10_cutTokens_69 (by decide) ?_
        refine lv_icmp_ne (tgt := 88) hx hb dX10_cutTokens_70 (by decide) (fun c12 => ?_) (fun c12 => ?_)
        · have h := of_f h c12
          refine lv_iload_n hx hb dX10_cutTokens_88 rfl (lv_at hl 2 rfl) ?_
          obtain ⟨r13, σ14, g15, h⟩ := of_bnd h
          refine x_SI (As := [.int r9]) (rest := []) hF hl hP hS (c_X10_isLetter hX g15) (cw_X10_176 hC rfl rfl ⟨Nat.le_of_ble_eq_true rfl, Nat.le_of_ble_eq_true rfl⟩) rfl rfl (Nat.le_of_ble_eq_true rfl) dX10_cutTokens_89 ⟨Nat.zero_le _, Nat.zero_le _⟩ (fun H locs hP hS => ?_)
          refine lv_if_eq (tgt := 191) hx hb dX10_cutTokens_92 (by decide) (fun c16 => ?_) (fun c16 => ?_)
          · have h := of_t h c16
            refine lv_iload_n hx hb dX10_cutTokens_191 rfl (lv_at hl 2 rfl) ?_
            obtain ⟨r17, σ18, g19, h⟩ := of_bnd h
            refine x_SI (As := [.int r9]) (rest := []) hF hl hP hS (c_X10_isDigit hX g19) (cw_X10_180 hC rfl rfl ⟨Nat.le_of_ble_eq_true rfl, Nat.le_of_ble_eq_true rfl⟩) rfl rfl (Nat.le_of_ble_eq_true rfl) dX10_cutTokens_192 ⟨Nat.zero_le _, Nat.zero_le _⟩ (fun H locs hP hS => ?_)
            refine lv_if_eq (tgt := 273) hx hb dX10_cutTokens_195 (by decide) (fun c20 => ?_) (fun c20 => ?_)
            · have h := of_t h c20
              refine lv_aload_n hx hb dX10_cutTokens_273 rfl (lv_at hl 3 rfl) ?_
              refine lv_iload_n hx hb dX10_cutTokens_274 rfl (lv_at hl 4 rfl) ?_
              obtain ⟨r21, σ22, g23, h⟩ := of_bnd h
              refine x_VI (As := [.int v1]) (rest := []) hF hl hP hS (c_X10_symbol hX g23) (cw_X10_188 hC rfl rfl ⟨Nat.le_of_ble_eq_true rfl, Nat.le_of_ble_eq_true rfl⟩) (lm_0 X) rfl rfl rfl (Nat.le_of_ble_eq_true rfl) dX10_cutTokens_275 ⟨Nat.zero_le _, Nat.zero_le _⟩ (fun H locs hP hS => ?_)
              refine lv_istore_n (lv' := [(1, .int r21), (4, .long 0), (3, .int v1), (2, .int r9), (0, .ref (E 0))]) hx hb dX10_cutTokens_278 rfl hl (by decide) rfl (fun ls hl => ?_)
              exact t_X10_cutTokens_279 hX  hF k7 hk7 r21 σ22 _ _ _ h hP hS (lv_sub hl [4, 0] rfl)
            · have h := of_f h c20
              exact t_X10_cutTokens_198 hX  hF k7 hk7 FU v1 v1 0 σ18 _ _ _ h hP hS (lv_sub hl [3, 4, 1, 0] rfl)
          · have h := of_f h c16
            exact t_X10_cutTokens_95 hX  hF k7 hk7 FU v1 v1 0 σ14 _ _ _ h hP hS (lv_sub hl [3, 4, 1, 0] rfl)
        · have h := of_t h c12
          refine lv_aload_n hx hb dX10_cutTokens_73 rfl (lv_at hl 3 rfl) ?_
          refine lv_sipush (v := 202) hx hb dX10_cutTokens_74 (by decide) ?_
          refine lv_aload_n hx hb dX10_cutTokens_77 rfl (lv_at hl 3 rfl) ?_
          refine gf_X10_143 hC hb hP dX10_cutTokens_78 ?_
          refine lv_lconst (v := 0) hx hb dX10_cutTokens_81 (by decide) ?_
          obtain ⟨r24, σ25, g26, h⟩ := of_bnd h
          refine x_VV (As := [.int 202, .int (gI σ10 3), .long 0]) (rest := []) hF hl hP hS (c_X10_token hX g26) (cw_X10_172 hC rfl rfl ⟨Nat.le_of_ble_eq_true rfl, Nat.le_of_ble_eq_true rfl⟩) (lm_0 X) rfl rfl rfl (Nat.le_of_ble_eq_true rfl) dX10_cutTokens_82 ⟨Nat.zero_le _, Nat.zero_le _⟩ (fun H locs hP hS => ?_)
          refine lv_goto (tgt := 279) hx hb dX10_cutTokens_85 (by decide) ?_
          exact t_X10_cutTokens_279 hX  hF k7 hk7 v1 σ25 _ _ _ h hP hS (lv_sub hl [3, 4] rfl)
      · have h := of_t h c8
        exact t_X10_cutTokens_51 hX  hF k7 (f_X10_cutTokens_31 k7 n) hk7 ih v1 σ6 _ _ _ h hP hS (lv_sub hl [0, 1] rfl)

def f_X10_cutTokens_7 : Nat → Int32 → Sta → Option (Unit × Sta)
  | 0, _, _ => none
  | n + 1, v1, σ => if gI σ 4 = 0 then
      f_X10_cutTokens_31 (f_X10_cutTokens_7 n) FU v1 σ
    else
      if (gI σ 4) - 1 < 0 ∨ 1501 ≤ (((gI σ 4) - 1).toNatClampNeg) then none else (
      if 202 ≤ gA σ 3 (((gI σ 4) - 1).toNatClampNeg) then
        some ((), σ)
      else
        f_X10_cutTokens_31 (f_X10_cutTokens_7 n) FU v1 σ)
set_option maxHeartbeats 4000000 in
set_option maxRecDepth 100000 in
theorem t_X10_cutTokens_7 {l : Launch} {D : va_G} {Y : CYs} {E : Nat → Nat} {X : List Dsc} (hX : Lok (LM ++ X)) {p : Program} {e : Env} {s : State} {m : MethodId} {args : Array Value} {below : List Frame} {meth : Method} {c : Code} (hF : Fr p s m args meth c RX10 cX10_cutTokens 7 none D Y E (LM ++ X)) {o : Unit × Sta} : ∀ (n : Nat) (v1 : Int32) (σ : Sta) (H : Heap) (locs : List Loc) (ls : Array Slot), f_X10_cutTokens_7 n v1 σ = some o → va_P D vwCl (wd Y E σ 0 (LM ++ X)) H → va_S (AF E (LM ++ X).length s.heap.size) s.heap H locs → lv_has ls 7 [(0, .ref (E 0)), (1, .int v1)] → WV p l e rm_X10_cutTokens s m args below meth c (LM ++ X) Y D E o H locs (F0 m 7 ls []) := by
  intro n
  induction n with
  | zero =>
    intro v1 σ H locs ls h hP hS hl
    exact nomatch (show (none : Option (Unit × Sta)) = some o from h)
  | succ n ih =>
    intro v1 σ H locs ls h hP hS hl
    rw [f_X10_cutTokens_7] at h
    obtain ⟨hC, hb, hml, hr, hlk, hD, hSW⟩ := id hF
    have hx := hC.1
    refine lv_aload_n hx hb dX10_cutTokens_7 rfl (lv_at hl 0 rfl) ?_
    refine gf_X10_166 hC hb hP dX10_cutTokens_8 ?_
    refine lv_if_eq (tgt := 31) hx hb dX10_cutTokens_11 (by decide) (fun c1 => ?_) (fun c1 => ?_)
    · have h := of_t h c1
      exact t_X10_cutTokens_31 hX  hF (f_X10_cutTokens_7 n) ih FU v1 σ _ _ _ h hP hS (lv_sub hl [0, 1] rfl)
    · have h := of_f h c1
      refine lv_aload_n hx hb dX10_cutTokens_14 rfl (lv_at hl 0 rfl) ?_
      refine gf_X10_17 hC hb hP dX10_cutTokens_15 ?_
      refine lv_aload_n hx hb dX10_cutTokens_18 rfl (lv_at hl 0 rfl) ?_
      refine gf_X10_166 hC hb hP dX10_cutTokens_19 ?_
      refine lv_iconst (v := 1) hx hb dX10_cutTokens_22 (by decide) ?_
      refine lv_isub hx hb dX10_cutTokens_23 ?_
      obtain ⟨g2, h⟩ := of_gd h
      refine x_iald hC hb hP (lm_3 X) g2 dX10_cutTokens_24 ?_
      refine lv_sipush (v := 202) hx hb dX10_cutTokens_25 (by decide) ?_
      refine lv_icmp_ge (tgt := 282) hx hb dX10_cutTokens_28 (by decide) (fun c3 => ?_) (fun c3 => ?_)
      · have h := of_t h c3
        exact x_vret hF hP hS h dX10_cutTokens_282
      · have h := of_f h c3
        exact t_X10_cutTokens_31 hX  hF (f_X10_cutTokens_7 n) ih FU v1 σ _ _ _ h hP hS (lv_sub hl [0, 1] rfl)

def f_X10_cutTokens (σ : Sta) : Option (Unit × Sta) :=
  lt (sI σ 4 0) (fun σ1 =>
  f_X10_cutTokens_7 FU 0 σ1)
set_option maxHeartbeats 4000000 in
set_option maxRecDepth 100000 in
theorem c_X10_cutTokens {l : Launch} {D : va_G} {Y : CYs} {E : Nat → Nat} {X : List Dsc} (hX : Lok (LM ++ X)) {σ : Sta} {o : Unit × Sta} (h : f_X10_cutTokens σ = some o) : MV l yX10_cutTokens (Cond.code yX10_cutTokens cX10_cutTokens 7 none :: gW) rm_X10_cutTokens (LM ++ X) Y D E [.ref (E 0)] σ o := by
  intro sz
  refine Met_of (Qc := fun sz => QV (LM ++ X) Y D E sz o) (by decide) (Nat.le_of_ble_eq_true rfl) (fun p e s m args below meth c hF hP ls hl => ?_) sz
  have hS : va_S (AF E (LM ++ X).length s.heap.size) s.heap s.heap [] := va_S.rf
  have hl : lv_has ls 7 [(0, .ref (E 0))] := hl
  show WV p l e rm_X10_cutTokens s m args below meth c (LM ++ X) Y D E o s.heap [] (F0 m 0 ls [])
  unfold f_X10_cutTokens at h
  obtain ⟨hC, hb, hml, hr, hlk, hD, hSW⟩ := id hF
  have hx := hC.1
  refine lv_aload_n hx hb dX10_cutTokens_0 rfl (lv_at hl 0 rfl) ?_
  refine lv_iconst (v := 0) hx hb dX10_cutTokens_1 (by decide) ?_
  refine pf_X10_166 hX hC hb hP hD hS dX10_cutTokens_2 (fun H locs σ1 eσ1 hP hS => ?_)
  have h := of_lt h eσ1
  refine lv_iconst (v := 0) hx hb dX10_cutTokens_5 (by decide) ?_
  refine lv_istore_n (lv' := [(1, .int 0), (0, .ref (E 0))]) hx hb dX10_cutTokens_6 rfl hl (by decide) rfl (fun ls hl => ?_)
  exact t_X10_cutTokens_7 hX  hF FU 0 σ1 _ _ _ h hP hS (lv_sub hl [1, 0] rfl)

abbrev rm_X10_clearProgram : Room := { frames := 0, cells := 0, slots := 0, locals := 0 }
def f_X10_clearProgram_62 : Nat → Int32 → Sta → Option (Unit × Sta)
  | 0, _, _ => none
  | n + 1, v1, σ => if 4 ≤ v1 then
      some ((), σ)
    else
      if v1 < 0 ∨ 4 ≤ (v1.toNatClampNeg) then none else (
      lt (sJ σ 37 (vp_updL (gJ σ 37) (v1.toNatClampNeg) 0)) (fun σ3 =>
      lt (v1 + 1) (fun x4 =>
      f_X10_clearProgram_62 n x4 σ3)))
set_option maxHeartbeats 4000000 in
set_option maxRecDepth 100000 in
theorem t_X10_clearProgram_62 {l : Launch} {D : va_G} {Y : CYs} {E : Nat → Nat} {X : List Dsc} (hX : Lok (LM ++ X)) {p : Program} {e : Env} {s : State} {m : MethodId} {args : Array Value} {below : List Frame} {meth : Method} {c : Code} (hF : Fr p s m args meth c RX10 cX10_clearProgram 2 none D Y E (LM ++ X)) {o : Unit × Sta} : ∀ (n : Nat) (v1 : Int32) (σ : Sta) (H : Heap) (locs : List Loc) (ls : Array Slot), f_X10_clearProgram_62 n v1 σ = some o → va_P D vwCl (wd Y E σ 0 (LM ++ X)) H → va_S (AF E (LM ++ X).length s.heap.size) s.heap H locs → lv_has ls 2 [(0, .ref (E 0)), (1, .int v1)] → WV p l e rm_X10_clearProgram s m args below meth c (LM ++ X) Y D E o H locs (F0 m 62 ls []) := by
  intro n
  induction n with
  | zero =>
    intro v1 σ H locs ls h hP hS hl
    exact nomatch (show (none : Option (Unit × Sta)) = some o from h)
  | succ n ih =>
    intro v1 σ H locs ls h hP hS hl
    rw [f_X10_clearProgram_62] at h
    obtain ⟨hC, hb, hml, hr, hlk, hD, hSW⟩ := id hF
    have hx := hC.1
    refine lv_iload_n hx hb dX10_clearProgram_62 rfl (lv_at hl 1 rfl) ?_
    refine lv_aload_n hx hb dX10_clearProgram_63 rfl (lv_at hl 0 rfl) ?_
    refine gf_X10_125 hC hb hP dX10_clearProgram_64 ?_
    refine x_alen (v := 4) hC hb hP (lm_37 X) (Or.inr (Or.inl rfl)) (by decide) dX10_clearProgram_67 ?_
    refine lv_icmp_ge (tgt := 84) hx hb dX10_clearProgram_68 (by decide) (fun c1 => ?_) (fun c1 => ?_)
    · have h := of_t h c1
      exact x_vret hF hP hS h dX10_clearProgram_84
    · have h := of_f h c1
      refine lv_aload_n hx hb dX10_clearProgram_71 rfl (lv_at hl 0 rfl) ?_
      refine gf_X10_125 hC hb hP dX10_clearProgram_72 ?_
      refine lv_iload_n hx hb dX10_clearProgram_75 rfl (lv_at hl 1 rfl) ?_
      refine lv_lconst (v := 0) hx hb dX10_clearProgram_76 (by decide) ?_
      obtain ⟨g2, h⟩ := of_gd h
      refine x_last hX hC hb hP hD hS (lm_37 X) g2 dX10_clearProgram_77 (fun H locs σ3 eσ3 hP hS => ?_)
      have h := of_lt h eσ3
      obtain ⟨x4, ex4⟩ : ∃ y : Int32, y = v1 + 1 := ⟨_, rfl⟩
      have h := of_lt h ex4
      refine lv_iinc (v := x4) (lv' := [(1, .int x4), (0, .ref (E 0))]) hx hb dX10_clearProgram_78 hl (k := 1) rfl (by rw [ex4]; rfl) (by decide) rfl (fun ls hl => ?_)
      refine lv_goto (tgt := 62) hx hb dX10_clearProgram_81 (by decide) ?_
      exact ih x4 σ3 _ _ _ h hP hS (lv_sub hl [1, 0] rfl)

def f_X10_clearProgram_42 : Nat → Int32 → Sta → Option (Unit × Sta)
  | 0, _, _ => none
  | n + 1, v1, σ => if 3 ≤ v1 then
      f_X10_clearProgram_62 FU 0 σ
    else
      if v1 < 0 ∨ 3 ≤ (v1.toNatClampNeg) then none else (
      lt (sA σ 29 (upd (gA σ 29) (v1.toNatClampNeg) 0)) (fun σ3 =>
      lt (v1 + 1) (fun x4 =>
      f_X10_clearProgram_42 n x4 σ3)))
set_option maxHeartbeats 4000000 in
set_option maxRecDepth 100000 in
theorem t_X10_clearProgram_42 {l : Launch} {D : va_G} {Y : CYs} {E : Nat → Nat} {X : List Dsc} (hX : Lok (LM ++ X)) {p : Program} {e : Env} {s : State} {m : MethodId} {args : Array Value} {below : List Frame} {meth : Method} {c : Code} (hF : Fr p s m args meth c RX10 cX10_clearProgram 2 none D Y E (LM ++ X)) {o : Unit × Sta} : ∀ (n : Nat) (v1 : Int32) (σ : Sta) (H : Heap) (locs : List Loc) (ls : Array Slot), f_X10_clearProgram_42 n v1 σ = some o → va_P D vwCl (wd Y E σ 0 (LM ++ X)) H → va_S (AF E (LM ++ X).length s.heap.size) s.heap H locs → lv_has ls 2 [(0, .ref (E 0)), (1, .int v1)] → WV p l e rm_X10_clearProgram s m args below meth c (LM ++ X) Y D E o H locs (F0 m 42 ls []) := by
  intro n
  induction n with
  | zero =>
    intro v1 σ H locs ls h hP hS hl
    exact nomatch (show (none : Option (Unit × Sta)) = some o from h)
  | succ n ih =>
    intro v1 σ H locs ls h hP hS hl
    rw [f_X10_clearProgram_42] at h
    obtain ⟨hC, hb, hml, hr, hlk, hD, hSW⟩ := id hF
    have hx := hC.1
    refine lv_iload_n hx hb dX10_clearProgram_42 rfl (lv_at hl 1 rfl) ?_
    refine lv_iconst (v := 3) hx hb dX10_clearProgram_43 (by decide) ?_
    refine lv_icmp_ge (tgt := 60) hx hb dX10_clearProgram_44 (by decide) (fun c1 => ?_) (fun c1 => ?_)
    · have h := of_t h c1
      refine lv_iconst (v := 0) hx hb dX10_clearProgram_60 (by decide) ?_
      refine lv_istore_n (lv' := [(1, .int 0), (0, .ref (E 0))]) hx hb dX10_clearProgram_61 rfl hl (by decide) rfl (fun ls hl => ?_)
      exact t_X10_clearProgram_62 hX  hF FU 0 σ _ _ _ h hP hS (lv_sub hl [1, 0] rfl)
    · have h := of_f h c1
      refine lv_aload_n hx hb dX10_clearProgram_47 rfl (lv_at hl 0 rfl) ?_
      refine gf_X10_100 hC hb hP dX10_clearProgram_48 ?_
      refine lv_iload_n hx hb dX10_clearProgram_51 rfl (lv_at hl 1 rfl) ?_
      refine lv_iconst (v := 0) hx hb dX10_clearProgram_52 (by decide) ?_
      obtain ⟨g2, h⟩ := of_gd h
      refine x_iast hX hC hb hP hD hS (lm_29 X) g2 dX10_clearProgram_53 (fun H locs σ3 eσ3 hP hS => ?_)
      have h := of_lt h eσ3
      obtain ⟨x4, ex4⟩ : ∃ y : Int32, y = v1 + 1 := ⟨_, rfl⟩
      have h := of_lt h ex4
      refine lv_iinc (v := x4) (lv' := [(1, .int x4), (0, .ref (E 0))]) hx hb dX10_clearProgram_54 hl (k := 1) rfl (by rw [ex4]; rfl) (by decide) rfl (fun ls hl => ?_)
      refine lv_goto (tgt := 42) hx hb dX10_clearProgram_57 (by decide) ?_
      exact ih x4 σ3 _ _ _ h hP hS (lv_sub hl [1, 0] rfl)

def f_X10_clearProgram (σ : Sta) : Option (Unit × Sta) :=
  lt (sI σ 8 0) (fun σ1 =>
  lt (sI σ1 10 0) (fun σ2 =>
  lt (sI σ2 15 0) (fun σ3 =>
  lt (sI σ3 18 (-1)) (fun σ4 =>
  lt (sI σ4 19 0) (fun σ5 =>
  lt (sI σ5 26 0) (fun σ6 =>
  lt (sI σ6 37 0) (fun σ7 =>
  lt (sI σ7 47 0) (fun σ8 =>
  f_X10_clearProgram_42 FU 0 σ8))))))))
set_option maxHeartbeats 4000000 in
set_option maxRecDepth 100000 in
theorem c_X10_clearProgram {l : Launch} {D : va_G} {Y : CYs} {E : Nat → Nat} {X : List Dsc} (hX : Lok (LM ++ X)) {σ : Sta} {o : Unit × Sta} (h : f_X10_clearProgram σ = some o) : MV l yX10_clearProgram (Cond.code yX10_clearProgram cX10_clearProgram 2 none :: gW) rm_X10_clearProgram (LM ++ X) Y D E [.ref (E 0)] σ o := by
  intro sz
  refine Met_of (Qc := fun sz => QV (LM ++ X) Y D E sz o) (by decide) (Nat.le_of_ble_eq_true rfl) (fun p e s m args below meth c hF hP ls hl => ?_) sz
  have hS : va_S (AF E (LM ++ X).length s.heap.size) s.heap s.heap [] := va_S.rf
  have hl : lv_has ls 2 [(0, .ref (E 0))] := hl
  show WV p l e rm_X10_clearProgram s m args below meth c (LM ++ X) Y D E o s.heap [] (F0 m 0 ls [])
  unfold f_X10_clearProgram at h
  obtain ⟨hC, hb, hml, hr, hlk, hD, hSW⟩ := id hF
  have hx := hC.1
  refine lv_aload_n hx hb dX10_clearProgram_0 rfl (lv_at hl 0 rfl) ?_
  refine lv_iconst (v := 0) hx hb dX10_clearProgram_1 (by decide) ?_
  refine pf_X10_195 hX hC hb hP hD hS dX10_clearProgram_2 (fun H locs σ1 eσ1 hP hS => ?_)
  have h := of_lt h eσ1
  refine lv_aload_n hx hb dX10_clearProgram_5 rfl (lv_at hl 0 rfl) ?_
  refine lv_iconst (v := 0) hx hb dX10_clearProgram_6 (by decide) ?_
  refine pf_X10_198 hX hC hb hP hD hS dX10_clearProgram_7 (fun H locs σ2 eσ2 hP hS => ?_)
  have h := of_lt h eσ2
  refine lv_aload_n hx hb dX10_clearProgram_10 rfl (lv_at hl 0 rfl) ?_
  refine lv_iconst (v := 0) hx hb dX10_clearProgram_11 (by decide) ?_
  refine pf_X10_201 hX hC hb hP hD hS dX10_clearProgram_12 (fun H locs σ3 eσ3 hP hS => ?_)
  have h := of_lt h eσ3
  refine lv_aload_n hx hb dX10_clearProgram_15 rfl (lv_at hl 0 rfl) ?_
  refine lv_iconst (v := -1) hx hb dX10_clearProgram_16 (by decide) ?_
  refine pf_X10_204 hX hC hb hP hD hS dX10_clearProgram_17 (fun H locs σ4 eσ4 hP hS => ?_)
  have h := of_lt h eσ4
  refine lv_aload_n hx hb dX10_clearProgram_20 rfl (lv_at hl 0 rfl) ?_
  refine lv_iconst (v := 0) hx hb dX10_clearProgram_21 (by decide) ?_
  refine pf_X10_207 hX hC hb hP hD hS dX10_clearProgram_22 (fun H locs σ5 eσ5 hP hS => ?_)
  have h := of_lt h eσ5
  refine lv_aload_n hx hb dX10_clearProgram_25 rfl (lv_at hl 0 rfl) ?_
  refine lv_iconst (v := 0) hx hb dX10_clearProgram_26 (by decide) ?_
  refine pf_X10_210 hX hC hb hP hD hS dX10_clearProgram_27 (fun H locs σ6 eσ6 hP hS => ?_)
  have h := of_lt h eσ6
  refine lv_aload_n hx hb dX10_clearProgram_30 rfl (lv_at hl 0 rfl) ?_
  refine lv_iconst (v := 0) hx hb dX10_clearProgram_31 (by decide) ?_
  refine pf_X10_213 hX hC hb hP hD hS dX10_clearProgram_32 (fun H locs σ7 eσ7 hP hS => ?_)
  have h := of_lt h eσ7
  refine lv_aload_n hx hb dX10_clearProgram_35 rfl (lv_at hl 0 rfl) ?_
  refine lv_iconst (v := 0) hx hb dX10_clearProgram_36 (by decide) ?_
  refine pf_X10_216 hX hC hb hP hD hS dX10_clearProgram_37 (fun H locs σ8 eσ8 hP hS => ?_)
  have h := of_lt h eσ8
  refine lv_iconst (v := 0) hx hb dX10_clearProgram_40 (by decide) ?_
  refine lv_istore_n (lv' := [(1, .int 0), (0, .ref (E 0))]) hx hb dX10_clearProgram_41 rfl hl (by decide) rfl (fun ls hl => ?_)
  exact t_X10_clearProgram_42 hX  hF FU 0 σ8 _ _ _ h hP hS (lv_sub hl [1, 0] rfl)

abbrev rm_X10_is : Room := { frames := 0, cells := 0, slots := 0, locals := 0 }
def f_X10_is_18 (s0 : Int32) (σ : Sta) : Option (Int32 × Sta) :=
  if ¬ (s0 = 0 ∨ s0 = 1) then none else (
  some (s0, σ))
set_option maxHeartbeats 4000000 in
set_option maxRecDepth 100000 in
theorem t_X10_is_18 {l : Launch} {D : va_G} {Y : CYs} {E : Nat → Nat} {X : List Dsc} (hX : Lok (LM ++ X)) {p : Program} {e : Env} {s : State} {m : MethodId} {args : Array Value} {below : List Frame} {meth : Method} {c : Code} (hF : Fr p s m args meth c RX10 cX10_is 2 (some .boolean) D Y E (LM ++ X)) {o : Int32 × Sta} : ∀ (s0 : Int32) (σ : Sta) (H : Heap) (locs : List Loc) (ls : Array Slot), f_X10_is_18 s0 σ = some o → va_P D vwCl (wd Y E σ 0 (LM ++ X)) H → va_S (AF E (LM ++ X).length s.heap.size) s.heap H locs → lv_has ls 2 [] → WI p l e rm_X10_is s m args below meth c (LM ++ X) Y D E o H locs (F0 m 18 ls [.int s0]) := by
  intro s0 σ H locs ls h hP hS hl
  unfold f_X10_is_18 at h
  obtain ⟨hC, hb, hml, hr, hlk, hD, hSW⟩ := id hF
  have hx := hC.1
  obtain ⟨g1, h⟩ := of_gd h
  exact x_zret hF hP hS (zb g1) h dX10_is_18

def f_X10_is (a1 : Int32) (σ : Sta) : Option (Int32 × Sta) :=
  if gI σ 29 < 0 ∨ 1501 ≤ ((gI σ 29).toNatClampNeg) then none else (
  if gA σ 3 ((gI σ 29).toNatClampNeg) = a1 then
    f_X10_is_18 1 σ
  else
    f_X10_is_18 0 σ)
set_option maxHeartbeats 4000000 in
set_option maxRecDepth 100000 in
theorem c_X10_is {l : Launch} {D : va_G} {Y : CYs} {E : Nat → Nat} {X : List Dsc} (hX : Lok (LM ++ X)) {a1 : Int32} {σ : Sta} {o : Int32 × Sta} (h : f_X10_is a1 σ = some o) : MI l yX10_is (Cond.code yX10_is cX10_is 2 (some .boolean) :: gW) rm_X10_is (LM ++ X) Y D E [.ref (E 0), .int a1] σ o := by
  intro sz
  refine Met_of (Qc := fun sz => QI (LM ++ X) Y D E sz o) (by decide) (Nat.le_of_ble_eq_true rfl) (fun p e s m args below meth c hF hP ls hl => ?_) sz
  have hS : va_S (AF E (LM ++ X).length s.heap.size) s.heap s.heap [] := va_S.rf
  have hl : lv_has ls 2 [(0, .ref (E 0)), (1, .int a1)] := hl
  show WI p l e rm_X10_is s m args below meth c (LM ++ X) Y D E o s.heap [] (F0 m 0 ls [])
  unfold f_X10_is at h
  obtain ⟨hC, hb, hml, hr, hlk, hD, hSW⟩ := id hF
  have hx := hC.1
  refine lv_aload_n hx hb dX10_is_0 rfl (lv_at hl 0 rfl) ?_
  refine gf_X10_17 hC hb hP dX10_is_1 ?_
  refine lv_aload_n hx hb dX10_is_4 rfl (lv_at hl 0 rfl) ?_
  refine gf_X10_219 hC hb hP dX10_is_5 ?_
  obtain ⟨g1, h⟩ := of_gd h
  refine x_iald hC hb hP (lm_3 X) g1 dX10_is_8 ?_
  refine lv_iload_n hx hb dX10_is_9 rfl (lv_at hl 1 rfl) ?_
  refine lv_icmp_ne (tgt := 17) hx hb dX10_is_10 (by decide) (fun c2 => ?_) (fun c2 => ?_)
  · have h := of_f h c2
    refine lv_iconst (v := 0) hx hb dX10_is_17 (by decide) ?_
    exact t_X10_is_18 hX  hF 0 σ _ _ _ h hP hS (lv_sub hl [] rfl)
  · have h := of_t h c2
    refine lv_iconst (v := 1) hx hb dX10_is_13 (by decide) ?_
    refine lv_goto (tgt := 18) hx hb dX10_is_14 (by decide) ?_
    exact t_X10_is_18 hX  hF 1 σ _ _ _ h hP hS (lv_sub hl [] rfl)

abbrev rm_X10_wrong : Room := { frames := 6, cells := 1, slots := 8, locals := 102 }
def f_X10_wrong (σ : Sta) : Option (Int32 × Int32) :=
  if gI σ 29 < 0 ∨ 1501 ≤ ((gI σ 29).toNatClampNeg) then none else (
  some (1, gA σ 4 ((gI σ 29).toNatClampNeg)))
set_option maxHeartbeats 4000000 in
set_option maxRecDepth 100000 in
theorem c_X10_wrong {l : Launch} {D : va_G} {Y : CYs} {E : Nat → Nat} {X : List Dsc} (hX : Lok (LM ++ X)) (ht : l.stackTraces = false) {σ : Sta} {o : Int32 × Int32} (h : f_X10_wrong σ = some o) : MR l yX10_wrong (Cond.code yX10_wrong cX10_wrong 1 (some (.object "MarkovBenchModel$Wrong")) :: gW) rm_X10_wrong (LM ++ X) Y D E [.ref (E 0)] σ o := by
  refine Met_of1 (Qc := fun sz => QRw (LM ++ X) Y D E sz o σ) (by decide) (Nat.le_of_ble_eq_true rfl) (fun p e s m args below meth c hF hP ls hl => ?_)
  have hS : va_S (AF E (LM ++ X).length s.heap.size) s.heap s.heap [] := va_S.rf
  have hl : lv_has ls 1 [(0, .ref (E 0))] := hl
  show W p l e rm_X10_wrong s m args below meth c s.heap [] 0 0 (MQ below (QRw (LM ++ X) Y D E s.heap.size o σ) args s 1 8 (AF E (LM ++ X).length s.heap.size)) (F0 m 0 ls [])
  unfold f_X10_wrong at h
  obtain ⟨hC, hb, hml, hr, hlk, hD, hSW⟩ := id hF
  have hx := hC.1
  obtain ⟨g2, h⟩ := of_gd h
  cases h
  refine x_newW hF hP hS dX10_wrong_0 (Nat.le_of_ble_eq_true rfl) (Nat.le_of_ble_eq_true rfl) (fun wa1 H hP hS hawa1 hnewa1 hBwa1 => ?_)
  refine lv_dup hx hb dX10_wrong_3 rfl ?_
  refine lv_iconst (v := 1) hx hb dX10_wrong_4 (by decide) ?_
  refine lv_aload_n hx hb dX10_wrong_5 rfl (lv_at hl 0 rfl) ?_
  refine gf_X10_20 hC hb hP dX10_wrong_6 ?_
  refine lv_aload_n hx hb dX10_wrong_9 rfl (lv_at hl 0 rfl) ?_
  refine gf_X10_219 hC hb hP dX10_wrong_10 ?_
  refine x_iald hC hb hP (lm_4 X) g2 dX10_wrong_13 ?_
  refine x_initW (x := (1, gA σ 4 ((gI σ 29).toNatClampNeg))) (rest := [.ref wa1]) ht hF hl hP hS hawa1 hnewa1 hBwa1 rfl (Nat.le_of_ble_eq_true rfl) dX10_wrong_14 ⟨Nat.le_of_ble_eq_true rfl, Nat.le_of_ble_eq_true rfl⟩ ⟨Nat.le_of_ble_eq_true rfl, Nat.le_of_ble_eq_true rfl⟩ (fun H locs hP hS hWwa1 => ?_)
  exact x_retR hF hP hS hWwa1 dX10_wrong_17
