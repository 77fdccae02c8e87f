theorem gf_X10_227 {p : Program} {l : Launch} {e : Env} {R : Room} {s : State} {m : MethodId} {args : Array Value} {below : List Frame} {meth : Method} {c : Code} {H : Heap} {locs : List Loc} {cells slots : Nat} {Q : State → Prop} {D : va_G} {Y : CYs} {E : Nat → Nat} {σ : Sta} {cc : ByteArray} {pc : Nat} {ls : Array Slot} {rest : List Value} {X : List Dsc} (hC : Ctx p s m args RX10 D Y) (hb : c.code = cc) (hP : va_P D vwCl (wd Y E σ 0 (LM ++ X)) H) (hdg : decode cc pc = .ok (.getfield 227, 3)) (kk : W p l e R s m args below meth c H locs cells slots Q (F0 m (pc + 3) ls (.int (gI σ 30) :: rest))) : W p l e R s m args below meth c H locs cells slots Q (F0 m pc ls (.ref (E 0) :: rest)) :=
  x_getI hC hb hP inGX10 (lm_0 X) rfl 30 (by decide) rfl (gw_t (tb6 (List.mem_of_getElem? (i := 74) rfl)) rfl) rfl hdg kk
theorem pf_X10_219 {p : Program} {l : Launch} {e : Env} {R : Room} {s : State} {m : MethodId} {args : Array Value} {below : List Frame} {meth : Method} {c : Code} {H : Heap} {locs : List Loc} {cells slots : Nat} {Q : State → Prop} {D : va_G} {Y : CYs} {E : Nat → Nat} {σ : Sta} {cc : ByteArray} {pc : Nat} {ls : Array Slot} {rest : List Value} {X : List Dsc} (hX : Lok (LM ++ X)) {A : Nat → Prop} {H0 : Heap} {x : Int32} (hC : Ctx p s m args RX10 D Y) (hb : c.code = cc) (hP : va_P D vwCl (wd Y E σ 0 (LM ++ X)) H) (hD : ∀ τ, va_D A (wd Y E τ 0 (LM ++ X))) (hS : va_S A H0 H locs) (hdg : decode cc pc = .ok (.putfield 219, 3)) (kk : ∀ (H1 : Heap) (locs1 : List Loc) (τ : Sta), τ = sI σ 29 x → va_P D vwCl (wd Y E τ 0 (LM ++ X)) H1 → va_S A H0 H1 locs1 → W p l e R s m args below meth c H1 locs1 cells slots Q (F0 m (pc + 3) ls rest)) : W p l e R s m args below meth c H locs cells slots Q (F0 m pc ls (.int x :: .ref (E 0) :: rest)) :=
  x_putI hX hC hb hP hD hS inGX10 tyX10 tyX10_ok nmX10 (lm_0 X) rfl 29 (by decide) rfl (gw_t (tb6 (List.mem_of_getElem? (i := 73) rfl)) rfl) rfl rfl rfl rfl rfl hdg kk
theorem gf_X10_231 {p : Program} {l : Launch} {e : Env} {R : Room} {s : State} {m : MethodId} {args : Array Value} {below : List Frame} {meth : Method} {c : Code} {H : Heap} {locs : List Loc} {cells slots : Nat} {Q : State → Prop} {D : va_G} {Y : CYs} {E : Nat → Nat} {σ : Sta} {cc : ByteArray} {pc : Nat} {ls : Array Slot} {rest : List Value} {X : List Dsc} (hC : Ctx p s m args RX10 D Y) (hb : c.code = cc) (hP : va_P D vwCl (wd Y E σ 0 (LM ++ X)) H) (hdg : decode cc pc = .ok (.getfield 231, 3)) (kk : W p l e R s m args below meth c H locs cells slots Q (F0 m (pc + 3) ls (.int (gI σ 32) :: rest))) : W p l e R s m args below meth c H locs cells slots Q (F0 m pc ls (.ref (E 0) :: rest)) :=
  x_getI hC hb hP inGX10 (lm_0 X) rfl 32 (by decide) rfl (gw_t (tb6 (List.mem_of_getElem? (i := 76) rfl)) rfl) rfl hdg kk
theorem pf_X10_231 {p : Program} {l : Launch} {e : Env} {R : Room} {s : State} {m : MethodId} {args : Array Value} {below : List Frame} {meth : Method} {c : Code} {H : Heap} {locs : List Loc} {cells slots : Nat} {Q : State → Prop} {D : va_G} {Y : CYs} {E : Nat → Nat} {σ : Sta} {cc : ByteArray} {pc : Nat} {ls : Array Slot} {rest : List Value} {X : List Dsc} (hX : Lok (LM ++ X)) {A : Nat → Prop} {H0 : Heap} {x : Int32} (hC : Ctx p s m args RX10 D Y) (hb : c.code = cc) (hP : va_P D vwCl (wd Y E σ 0 (LM ++ X)) H) (hD : ∀ τ, va_D A (wd Y E τ 0 (LM ++ X))) (hS : va_S A H0 H locs) (hdg : decode cc pc = .ok (.putfield 231, 3)) (kk : ∀ (H1 : Heap) (locs1 : List Loc) (τ : Sta), τ = sI σ 32 x → va_P D vwCl (wd Y E τ 0 (LM ++ X)) H1 → va_S A H0 H1 locs1 → W p l e R s m args below meth c H1 locs1 cells slots Q (F0 m (pc + 3) ls rest)) : W p l e R s m args below meth c H locs cells slots Q (F0 m pc ls (.int x :: .ref (E 0) :: rest)) :=
  x_putI hX hC hb hP hD hS inGX10 tyX10 tyX10_ok nmX10 (lm_0 X) rfl 32 (by decide) rfl (gw_t (tb6 (List.mem_of_getElem? (i := 76) rfl)) rfl) rfl rfl rfl rfl rfl hdg kk
theorem cw_X10_234 {R : Room} {p : Program} {s : State} {m : MethodId} {args : Array Value} {D : va_G} {Y : CYs} {rm : Room} (hC : Ctx p s m args RX10 D Y) (hrc : rm.cells = 1) (hrs : rm.slots = 8) (hR : rm.frames + 1 ≤ R.frames ∧ 8 + (1 + 11) + rm.locals ≤ R.locals) : CallW R s args RX10 RX10 234 yX10_wrong cX10_wrong 1 (some (.object "MarkovBenchModel$Wrong")) (Cond.code yX10_wrong cX10_wrong 1 (some (.object "MarkovBenchModel$Wrong")) :: gW) rm 1 8 0 :=
  cwV 0 hC.2.1 (gi_V (gw_t (tb7 (List.mem_of_getElem? (i := 49) rfl)) rfl) (gw_t (tb7 (List.mem_of_getElem? (i := 51) rfl)) rfl) (gw_s (q := (⟨"MarkovBenchModel", "wrong", "()LMarkovBenchModel$Wrong;"⟩, 57)) (lp5_ (List.mem_of_getElem? (i := 5) rfl))) (gw_t (tb1 (List.mem_of_getElem? (i := 10) rfl)) rfl) (gw_t (tb7 (List.mem_of_getElem? (i := 52) rfl)) rfl)) rfl hrc hrs ⟨rfl, by decide +kernel, by decide +kernel, by decide +kernel⟩ hR
theorem cw_X10_238 {R : Room} {p : Program} {s : State} {m : MethodId} {args : Array Value} {D : va_G} {Y : CYs} {rm : Room} (hC : Ctx p s m args RX10 D Y) (hrc : rm.cells = 0) (hrs : rm.slots = 0) (hR : rm.frames + 1 ≤ R.frames ∧ 8 + (2 + 11) + rm.locals ≤ R.locals) : CallW R s args RX10 RX10 238 yX10_is cX10_is 2 (some .boolean) (Cond.code yX10_is cX10_is 2 (some .boolean) :: gW) rm 0 0 1 :=
  cwV 1 hC.2.1 (gi_V (gw_t (tb7 (List.mem_of_getElem? (i := 97) rfl)) rfl) (gw_t (tb7 (List.mem_of_getElem? (i := 99) rfl)) rfl) (gw_s (q := (⟨"MarkovBenchModel", "is", "(I)Z"⟩, 57)) (lp5_ (List.mem_of_getElem? (i := 10) rfl))) (gw_t (tb1 (List.mem_of_getElem? (i := 10) rfl)) rfl) (gw_t (tb7 (List.mem_of_getElem? (i := 100) rfl)) rfl)) rfl hrc hrs ⟨rfl, by decide +kernel, by decide +kernel, by decide +kernel⟩ hR
theorem cw_X10_241 {R : Room} {p : Program} {s : State} {m : MethodId} {args : Array Value} {D : va_G} {Y : CYs} {rm : Room} {mc ms : Nat} (hC : Ctx p s m args RX10 D Y) (hrc : rm.cells = mc) (hrs : rm.slots = ms) (hR : rm.frames + 1 ≤ R.frames ∧ 8 + (1 + 11) + rm.locals ≤ R.locals) : CallW R s args RX10 RX10 241 yX10_take cX10_take 1 none (Cond.code yX10_take cX10_take 1 none :: gW) rm mc ms 0 :=
  cwV 0 hC.2.1 (gi_V (gw_t (tb7 (List.mem_of_getElem? (i := 81) rfl)) rfl) (gw_t (tb7 (List.mem_of_getElem? (i := 83) rfl)) rfl) (gw_s (q := (⟨"MarkovBenchModel", "take", "()V"⟩, 57)) (lp5_ (List.mem_of_getElem? (i := 6) rfl))) (gw_t (tb1 (List.mem_of_getElem? (i := 10) rfl)) rfl) (gw_t (tb7 (List.mem_of_getElem? (i := 84) rfl)) rfl)) rfl hrc hrs ⟨rfl, by decide +kernel, by decide +kernel, by decide +kernel⟩ hR
theorem gf_X10_244 {p : Program} {l : Launch} {e : Env} {R : Room} {s : State} {m : MethodId} {args : Array Value} {below : List Frame} {meth : Method} {c : Code} {H : Heap} {locs : List Loc} {cells slots : Nat} {Q : State → Prop} {D : va_G} {Y : CYs} {E : Nat → Nat} {σ : Sta} {cc : ByteArray} {pc : Nat} {ls : Array Slot} {rest : List Value} {X : List Dsc} (hC : Ctx p s m args RX10 D Y) (hb : c.code = cc) (hP : va_P D vwCl (wd Y E σ 0 (LM ++ X)) H) (hdg : decode cc pc = .ok (.getfield 244, 3)) (kk : W p l e R s m args below meth c H locs cells slots Q (F0 m (pc + 3) ls (.int (gI σ 31) :: rest))) : W p l e R s m args below meth c H locs cells slots Q (F0 m pc ls (.ref (E 0) :: rest)) :=
  x_getI hC hb hP inGX10 (lm_0 X) rfl 31 (by decide) rfl (gw_t (tb6 (List.mem_of_getElem? (i := 75) rfl)) rfl) rfl hdg kk
theorem pf_X10_244 {p : Program} {l : Launch} {e : Env} {R : Room} {s : State} {m : MethodId} {args : Array Value} {below : List Frame} {meth : Method} {c : Code} {H : Heap} {locs : List Loc} {cells slots : Nat} {Q : State → Prop} {D : va_G} {Y : CYs} {E : Nat → Nat} {σ : Sta} {cc : ByteArray} {pc : Nat} {ls : Array Slot} {rest : List Value} {X : List Dsc} (hX : Lok (LM ++ X)) {A : Nat → Prop} {H0 : Heap} {x : Int32} (hC : Ctx p s m args RX10 D Y) (hb : c.code = cc) (hP : va_P D vwCl (wd Y E σ 0 (LM ++ X)) H) (hD : ∀ τ, va_D A (wd Y E τ 0 (LM ++ X))) (hS : va_S A H0 H locs) (hdg : decode cc pc = .ok (.putfield 244, 3)) (kk : ∀ (H1 : Heap) (locs1 : List Loc) (τ : Sta), τ = sI σ 31 x → va_P D vwCl (wd Y E τ 0 (LM ++ X)) H1 → va_S A H0 H1 locs1 → W p l e R s m args below meth c H1 locs1 cells slots Q (F0 m (pc + 3) ls rest)) : W p l e R s m args below meth c H locs cells slots Q (F0 m pc ls (.int x :: .ref (E 0) :: rest)) :=
  x_putI hX hC hb hP hD hS inGX10 tyX10 tyX10_ok nmX10 (lm_0 X) rfl 31 (by decide) rfl (gw_t (tb6 (List.mem_of_getElem? (i := 75) rfl)) rfl) rfl rfl rfl rfl rfl hdg kk
theorem gf_X10_65 {p : Program} {l : Launch} {e : Env} {R : Room} {s : State} {m : MethodId} {args : Array Value} {below : List Frame} {meth : Method} {c : Code} {H : Heap} {locs : List Loc} {cells slots : Nat} {Q : State → Prop} {D : va_G} {Y : CYs} {E : Nat → Nat} {σ : Sta} {cc : ByteArray} {pc : Nat} {ls : Array Slot} {rest : List Value} {X : List Dsc} (hC : Ctx p s m args RX10 D Y) (hb : c.code = cc) (hP : va_P D vwCl (wd Y E σ 0 (LM ++ X)) H) (hdg : decode cc pc = .ok (.getfield 65, 3)) (kk : W p l e R s m args below meth c H locs cells slots Q (F0 m (pc + 3) ls (.ref (E 19) :: rest))) : W p l e R s m args below meth c H locs cells slots Q (F0 m pc ls (.ref (E 0) :: rest)) :=
  x_getR hC hb hP inGX10 (lm_0 X) rfl 27 (by decide) rfl (gw_t (tb6 (List.mem_of_getElem? (i := 71) rfl)) rfl) rfl hdg kk
theorem gf_X10_210 {p : Program} {l : Launch} {e : Env} {R : Room} {s : State} {m : MethodId} {args : Array Value} {below : List Frame} {meth : Method} {c : Code} {H : Heap} {locs : List Loc} {cells slots : Nat} {Q : State → Prop} {D : va_G} {Y : CYs} {E : Nat → Nat} {σ : Sta} {cc : ByteArray} {pc : Nat} {ls : Array Slot} {rest : List Value} {X : List Dsc} (hC : Ctx p s m args RX10 D Y) (hb : c.code = cc) (hP : va_P D vwCl (wd Y E σ 0 (LM ++ X)) H) (hdg : decode cc pc = .ok (.getfield 210, 3)) (kk : W p l e R s m args below meth c H locs cells slots Q (F0 m (pc + 3) ls (.int (gI σ 26) :: rest))) : W p l e R s m args below meth c H locs cells slots Q (F0 m pc ls (.ref (E 0) :: rest)) :=
  x_getI hC hb hP inGX10 (lm_0 X) rfl 26 (by decide) rfl (gw_t (tb6 (List.mem_of_getElem? (i := 70) rfl)) rfl) rfl hdg kk
theorem gf_X10_68 {p : Program} {l : Launch} {e : Env} {R : Room} {s : State} {m : MethodId} {args : Array Value} {below : List Frame} {meth : Method} {c : Code} {H : Heap} {locs : List Loc} {cells slots : Nat} {Q : State → Prop} {D : va_G} {Y : CYs} {E : Nat → Nat} {σ : Sta} {cc : ByteArray} {pc : Nat} {ls : Array Slot} {rest : List Value} {X : List Dsc} (hC : Ctx p s m args RX10 D Y) (hb : c.code = cc) (hP : va_P D vwCl (wd Y E σ 0 (LM ++ X)) H) (hdg : decode cc pc = .ok (.getfield 68, 3)) (kk : W p l e R s m args below meth c H locs cells slots Q (F0 m (pc + 3) ls (.ref (E 20) :: rest))) : W p l e R s m args below meth c H locs cells slots Q (F0 m pc ls (.ref (E 0) :: rest)) :=
  x_getR hC hb hP inGX10 (lm_0 X) rfl 28 (by decide) rfl (gw_t (tb6 (List.mem_of_getElem? (i := 72) rfl)) rfl) rfl hdg kk
theorem cw_X10_277 {R : Room} {p : Program} {s : State} {m : MethodId} {args : Array Value} {D : va_G} {Y : CYs} {rm : Room} {mc ms : Nat} (hC : Ctx p s m args RX10 D Y) (hrc : rm.cells = mc) (hrs : rm.slots = ms) (hR : rm.frames + 1 ≤ R.frames ∧ 8 + (1 + 11) + rm.locals ≤ R.locals) : CallW R s args RX10 RX10 277 yX10_deeper cX10_deeper 1 none (Cond.code yX10_deeper cX10_deeper 1 none :: gW) rm mc ms 0 :=
  cwV 0 hC.2.1 (gi_V (gw_t (tb7 (List.mem_of_getElem? (i := 155) rfl)) rfl) (gw_t (tb7 (List.mem_of_getElem? (i := 157) rfl)) rfl) (gw_s (q := (⟨"MarkovBenchModel", "deeper", "()V"⟩, 57)) (lp6_ (List.mem_of_getElem? (i := 8) rfl))) (gw_t (tb1 (List.mem_of_getElem? (i := 10) rfl)) rfl) (gw_t (tb7 (List.mem_of_getElem? (i := 158) rfl)) rfl)) rfl hrc hrs ⟨rfl, by decide +kernel, by decide +kernel, by decide +kernel⟩ hR
theorem cw_X10_286 {R : Room} {p : Program} {s : State} {m : MethodId} {args : Array Value} {D : va_G} {Y : CYs} {rm : Room} {mc ms : Nat} (hC : Ctx p s m args RX10 D Y) (hrc : rm.cells = mc) (hrs : rm.slots = ms) (hR : rm.frames + 1 ≤ R.frames ∧ 8 + (2 + 11) + rm.locals ≤ R.locals) : CallW R s args RX10 RX10 286 yX10_take_ cX10_take_ 2 none (Cond.code yX10_take_ cX10_take_ 2 none :: gW) rm mc ms 1 :=
  cwV 1 hC.2.1 (gi_V (gw_t (tb7 (List.mem_of_getElem? (i := 101) rfl)) rfl) (gw_t (tb7 (List.mem_of_getElem? (i := 103) rfl)) rfl) (gw_s (q := (⟨"MarkovBenchModel", "take", "(I)V"⟩, 57)) (lp5_ (List.mem_of_getElem? (i := 11) rfl))) (gw_t (tb1 (List.mem_of_getElem? (i := 10) rfl)) rfl) (gw_t (tb7 (List.mem_of_getElem? (i := 104) rfl)) rfl)) rfl hrc hrs ⟨rfl, by decide +kernel, by decide +kernel, by decide +kernel⟩ hR
theorem cw_X10_288 {R : Room} {p : Program} {s : State} {m : MethodId} {args : Array Value} {D : va_G} {Y : CYs} {rm : Room} {mc ms : Nat} (hC : Ctx p s m args RX10 D Y) (hrc : rm.cells = mc) (hrs : rm.slots = ms) (hR : rm.frames + 1 ≤ R.frames ∧ 8 + (4 + 11) + rm.locals ≤ R.locals) : CallW R s args RX10 RX10 288 yX10_must cX10_must 4 none (Cond.code yX10_must cX10_must 4 none :: gW) rm mc ms 3 :=
  cwV 3 hC.2.1 (gi_V (gw_t (tb7 (List.mem_of_getElem? (i := 85) rfl)) rfl) (gw_t (tb7 (List.mem_of_getElem? (i := 87) rfl)) rfl) (gw_s (q := (⟨"MarkovBenchModel", "must", "(ZII)V"⟩, 57)) (lp5_ (List.mem_of_getElem? (i := 7) rfl))) (gw_t (tb1 (List.mem_of_getElem? (i := 10) rfl)) rfl) (gw_t (tb7 (List.mem_of_getElem? (i := 88) rfl)) rfl)) rfl hrc hrs ⟨rfl, by decide +kernel, by decide +kernel, by decide +kernel⟩ hR
theorem gf_X10_29 {p : Program} {l : Launch} {e : Env} {R : Room} {s : State} {m : MethodId} {args : Array Value} {below : List Frame} {meth : Method} {c : Code} {H : Heap} {locs : List Loc} {cells slots : Nat} {Q : State → Prop} {D : va_G} {Y : CYs} {E : Nat → Nat} {σ : Sta} {cc : ByteArray} {pc : Nat} {ls : Array Slot} {rest : List Value} {X : List Dsc} (hC : Ctx p s m args RX10 D Y) (hb : c.code = cc) (hP : va_P D vwCl (wd Y E σ 0 (LM ++ X)) H) (hdg : decode cc pc = .ok (.getfield 29, 3)) (kk : W p l e R s m args below meth c H locs cells slots Q (F0 m (pc + 3) ls (.ref (E 7) :: rest))) : W p l e R s m args below meth c H locs cells slots Q (F0 m pc ls (.ref (E 0) :: rest)) :=
  x_getR hC hb hP inGX10 (lm_0 X) rfl 11 (by decide) rfl (gw_t (tb6 (List.mem_of_getElem? (i := 55) rfl)) rfl) rfl hdg kk
theorem gf_X10_198 {p : Program} {l : Launch} {e : Env} {R : Room} {s : State} {m : MethodId} {args : Array Value} {below : List Frame} {meth : Method} {c : Code} {H : Heap} {locs : List Loc} {cells slots : Nat} {Q : State → Prop} {D : va_G} {Y : CYs} {E : Nat → Nat} {σ : Sta} {cc : ByteArray} {pc : Nat} {ls : Array Slot} {rest : List Value} {X : List Dsc} (hC : Ctx p s m args RX10 D Y) (hb : c.code = cc) (hP : va_P D vwCl (wd Y E σ 0 (LM ++ X)) H) (hdg : decode cc pc = .ok (.getfield 198, 3)) (kk : W p l e R s m args below meth c H locs cells slots Q (F0 m (pc + 3) ls (.int (gI σ 10) :: rest))) : W p l e R s m args below meth c H locs cells slots Q (F0 m pc ls (.ref (E 0) :: rest)) :=
  x_getI hC hb hP inGX10 (lm_0 X) rfl 10 (by decide) rfl (gw_t (tb6 (List.mem_of_getElem? (i := 54) rfl)) rfl) rfl hdg kk
theorem cw_X10_254 {R : Room} {p : Program} {s : State} {m : MethodId} {args : Array Value} {D : va_G} {Y : CYs} {rm : Room} {mc ms : Nat} (hC : Ctx p s m args RX10 D Y) (hrc : rm.cells = mc) (hrs : rm.slots = ms) (hR : rm.frames + 1 ≤ R.frames ∧ 8 + (1 + 11) + rm.locals ≤ R.locals) : CallW R s args RX10 RX10 254 yX10_both cX10_both 1 none (Cond.code yX10_both cX10_both 1 none :: gW) rm mc ms 0 :=
  cwV 0 hC.2.1 (gi_V (gw_t (tb7 (List.mem_of_getElem? (i := 127) rfl)) rfl) (gw_t (tb7 (List.mem_of_getElem? (i := 129) rfl)) rfl) (gw_s (q := (⟨"MarkovBenchModel", "both", "()V"⟩, 57)) (lp6_ (List.mem_of_getElem? (i := 1) rfl))) (gw_t (tb1 (List.mem_of_getElem? (i := 10) rfl)) rfl) (gw_t (tb7 (List.mem_of_getElem? (i := 130) rfl)) rfl)) rfl hrc hrs ⟨rfl, by decide +kernel, by decide +kernel, by decide +kernel⟩ hR
theorem cw_X10_250 {R : Room} {p : Program} {s : State} {m : MethodId} {args : Array Value} {D : va_G} {Y : CYs} {rm : Room} (hC : Ctx p s m args RX10 D Y) (hrc : rm.cells = 0) (hrs : rm.slots = 0) (hR : rm.frames + 1 ≤ R.frames ∧ 8 + (4 + 11) + rm.locals ≤ R.locals) : CallW R s args RX10 RX10 250 yX10_emit cX10_emit 4 none (Cond.code yX10_emit cX10_emit 4 none :: gW) rm 0 0 2 :=
  cwV 2 hC.2.1 (gi_V (gw_t (tb7 (List.mem_of_getElem? (i := 147) rfl)) rfl) (gw_t (tb7 (List.mem_of_getElem? (i := 149) rfl)) rfl) (gw_s (q := (⟨"MarkovBenchModel", "emit", "(IJ)V"⟩, 57)) (lp6_ (List.mem_of_getElem? (i := 6) rfl))) (gw_t (tb1 (List.mem_of_getElem? (i := 10) rfl)) rfl) (gw_t (tb7 (List.mem_of_getElem? (i := 150) rfl)) rfl)) rfl hrc hrs ⟨rfl, by decide +kernel, by decide +kernel, by decide +kernel⟩ hR
theorem cw_X10_257 {R : Room} {p : Program} {s : State} {m : MethodId} {args : Array Value} {D : va_G} {Y : CYs} {rm : Room} {mc ms : Nat} (hC : Ctx p s m args RX10 D Y) (hrc : rm.cells = mc) (hrs : rm.slots = ms) (hR : rm.frames + 1 ≤ R.frames ∧ 8 + (2 + 11) + rm.locals ≤ R.locals) : CallW R s args RX10 RX10 257 yX10_relation cX10_relation 2 none (Cond.code yX10_relation cX10_relation 2 none :: gW) rm mc ms 0 :=
  cwV 0 hC.2.1 (gi_V (gw_t (tb7 (List.mem_of_getElem? (i := 131) rfl)) rfl) (gw_t (tb7 (List.mem_of_getElem? (i := 133) rfl)) rfl) (gw_s (q := (⟨"MarkovBenchModel", "relation", "()V"⟩, 57)) (lp6_ (List.mem_of_getElem? (i := 2) rfl))) (gw_t (tb1 (List.mem_of_getElem? (i := 10) rfl)) rfl) (gw_t (tb7 (List.mem_of_getElem? (i := 134) rfl)) rfl)) rfl hrc hrs ⟨rfl, by decide +kernel, by decide +kernel, by decide +kernel⟩ hR
theorem cw_X10_260 {R : Room} {p : Program} {s : State} {m : MethodId} {args : Array Value} {D : va_G} {Y : CYs} {rm : Room} {mc ms : Nat} (hC : Ctx p s m args RX10 D Y) (hrc : rm.cells = mc) (hrs : rm.slots = ms) (hR : rm.frames + 1 ≤ R.frames ∧ 8 + (2 + 11) + rm.locals ≤ R.locals) : CallW R s args RX10 RX10 260 yX10_sum cX10_sum 2 none (Cond.code yX10_sum cX10_sum 2 none :: gW) rm mc ms 0 :=
  cwV 0 hC.2.1 (gi_V (gw_t (tb7 (List.mem_of_getElem? (i := 135) rfl)) rfl) (gw_t (tb7 (List.mem_of_getElem? (i := 137) rfl)) rfl) (gw_s (q := (⟨"MarkovBenchModel", "sum", "()V"⟩, 57)) (lp6_ (List.mem_of_getElem? (i := 3) rfl))) (gw_t (tb1 (List.mem_of_getElem? (i := 10) rfl)) rfl) (gw_t (tb7 (List.mem_of_getElem? (i := 138) rfl)) rfl)) rfl hrc hrs ⟨rfl, by decide +kernel, by decide +kernel, by decide +kernel⟩ hR
theorem cw_X10_263 {R : Room} {p : Program} {s : State} {m : MethodId} {args : Array Value} {D : va_G} {Y : CYs} {rm : Room} {mc ms : Nat} (hC : Ctx p s m args RX10 D Y) (hrc : rm.cells = mc) (hrs : rm.slots = ms) (hR : rm.frames + 1 ≤ R.frames ∧ 8 + (2 + 11) + rm.locals ≤ R.locals) : CallW R s args RX10 RX10 263 yX10_product cX10_product 2 none (Cond.code yX10_product cX10_product 2 none :: gW) rm mc ms 0 :=
  cwV 0 hC.2.1 (gi_V (gw_t (tb7 (List.mem_of_getElem? (i := 139) rfl)) rfl) (gw_t (tb7 (List.mem_of_getElem? (i := 141) rfl)) rfl) (gw_s (q := (⟨"MarkovBenchModel", "product", "()V"⟩, 57)) (lp6_ (List.mem_of_getElem? (i := 4) rfl))) (gw_t (tb1 (List.mem_of_getElem? (i := 10) rfl)) rfl) (gw_t (tb7 (List.mem_of_getElem? (i := 142) rfl)) rfl)) rfl hrc hrs ⟨rfl, by decide +kernel, by decide +kernel, by decide +kernel⟩ hR
theorem cw_X10_266 {R : Room} {p : Program} {s : State} {m : MethodId} {args : Array Value} {D : va_G} {Y : CYs} {rm : Room} {mc ms : Nat} (hC : Ctx p s m args RX10 D Y) (hrc : rm.cells = mc) (hrs : rm.slots = ms) (hR : rm.frames + 1 ≤ R.frames ∧ 8 + (2 + 11) + rm.locals ≤ R.locals) : CallW R s args RX10 RX10 266 yX10_factor cX10_factor 2 none (Cond.code yX10_factor cX10_factor 2 none :: gW) rm mc ms 0 :=
  cwV 0 hC.2.1 (gi_V (gw_t (tb7 (List.mem_of_getElem? (i := 143) rfl)) rfl) (gw_t (tb7 (List.mem_of_getElem? (i := 145) rfl)) rfl) (gw_s (q := (⟨"MarkovBenchModel", "factor", "()V"⟩, 57)) (lp6_ (List.mem_of_getElem? (i := 5) rfl))) (gw_t (tb1 (List.mem_of_getElem? (i := 10) rfl)) rfl) (gw_t (tb7 (List.mem_of_getElem? (i := 146) rfl)) rfl)) rfl hrc hrs ⟨rfl, by decide +kernel, by decide +kernel, by decide +kernel⟩ hR
theorem cw_X10_280 {R : Room} {p : Program} {s : State} {m : MethodId} {args : Array Value} {D : va_G} {Y : CYs} {rm : Room} {mc ms : Nat} (hC : Ctx p s m args RX10 D Y) (hrc : rm.cells = mc) (hrs : rm.slots = ms) (hR : rm.frames + 1 ≤ R.frames ∧ 8 + (1 + 11) + rm.locals ≤ R.locals) : CallW R s args RX10 RX10 280 yX10_open cX10_open 1 none (Cond.code yX10_open cX10_open 1 none :: gW) rm mc ms 0 :=
  cwV 0 hC.2.1 (gi_V (gw_t (tb7 (List.mem_of_getElem? (i := 159) rfl)) rfl) (gw_t (tb7 (List.mem_of_getElem? (i := 161) rfl)) rfl) (gw_s (q := (⟨"MarkovBenchModel", "open", "()V"⟩, 57)) (lp6_ (List.mem_of_getElem? (i := 9) rfl))) (gw_t (tb1 (List.mem_of_getElem? (i := 10) rfl)) rfl) (gw_t (tb7 (List.mem_of_getElem? (i := 162) rfl)) rfl)) rfl hrc hrs ⟨rfl, by decide +kernel, by decide +kernel, by decide +kernel⟩ hR
theorem cw_X10_247 {R : Room} {p : Program} {s : State} {m : MethodId} {args : Array Value} {D : va_G} {Y : CYs} {rm : Room} {mc ms : Nat} (hC : Ctx p s m args RX10 D Y) (hrc : rm.cells = mc) (hrs : rm.slots = ms) (hR : rm.frames + 1 ≤ R.frames ∧ 8 + (1 + 11) + rm.locals ≤ R.locals) : CallW R s args RX10 RX10 247 yX10_expression cX10_expression 1 none (Cond.code yX10_expression cX10_expression 1 none :: gW) rm mc ms 0 :=
  cwV 0 hC.2.1 (gi_V (gw_t (tb7 (List.mem_of_getElem? (i := 123) rfl)) rfl) (gw_t (tb7 (List.mem_of_getElem? (i := 125) rfl)) rfl) (gw_s (q := (⟨"MarkovBenchModel", "expression", "()V"⟩, 57)) (lp6_ (List.mem_of_getElem? (i := 0) rfl))) (gw_t (tb1 (List.mem_of_getElem? (i := 10) rfl)) rfl) (gw_t (tb7 (List.mem_of_getElem? (i := 126) rfl)) rfl)) rfl hrc hrs ⟨rfl, by decide +kernel, by decide +kernel, by decide +kernel⟩ hR
theorem cw_X10_283 {R : Room} {p : Program} {s : State} {m : MethodId} {args : Array Value} {D : va_G} {Y : CYs} {rm : Room} {mc ms : Nat} (hC : Ctx p s m args RX10 D Y) (hrc : rm.cells = mc) (hrs : rm.slots = ms) (hR : rm.frames + 1 ≤ R.frames ∧ 8 + (1 + 11) + rm.locals ≤ R.locals) : CallW R s args RX10 RX10 283 yX10_close cX10_close 1 none (Cond.code yX10_close cX10_close 1 none :: gW) rm mc ms 0 :=
  cwV 0 hC.2.1 (gi_V (gw_t (tb7 (List.mem_of_getElem? (i := 163) rfl)) rfl) (gw_t (tb7 (List.mem_of_getElem? (i := 165) rfl)) rfl) (gw_s (q := (⟨"MarkovBenchModel", "close", "()V"⟩, 57)) (lp6_ (List.mem_of_getElem? (i := 10) rfl))) (gw_t (tb1 (List.mem_of_getElem? (i := 10) rfl)) rfl) (gw_t (tb7 (List.mem_of_getElem? (i := 166) rfl)) rfl)) rfl hrc hrs ⟨rfl, by decide +kernel, by decide +kernel, by decide +kernel⟩ hR
theorem cw_X10_273 {R : Room} {p : Program} {s : State} {m : MethodId} {args : Array Value} {D : va_G} {Y : CYs} {rm : Room} {mc ms : Nat} (hC : Ctx p s m args RX10 D Y) (hrc : rm.cells = mc) (hrs : rm.slots = ms) (hR : rm.frames + 1 ≤ R.frames ∧ 8 + (2 + 11) + rm.locals ≤ R.locals) : CallW R s args RX10 RX10 273 yX10_variableHere cX10_variableHere 2 (some .int) (Cond.code yX10_variableHere cX10_variableHere 2 (some .int) :: gW) rm mc ms 0 :=
  cwV 0 hC.2.1 (gi_V (gw_t (tb7 (List.mem_of_getElem? (i := 151) rfl)) rfl) (gw_t (tb7 (List.mem_of_getElem? (i := 153) rfl)) rfl) (gw_s (q := (⟨"MarkovBenchModel", "variableHere", "()I"⟩, 57)) (lp6_ (List.mem_of_getElem? (i := 7) rfl))) (gw_t (tb1 (List.mem_of_getElem? (i := 10) rfl)) rfl) (gw_t (tb7 (List.mem_of_getElem? (i := 154) rfl)) rfl)) rfl hrc hrs ⟨rfl, by decide +kernel, by decide +kernel, by decide +kernel⟩ hR
def f_X10_must_21 (σ : Sta) : Option ((Unit ⊕ (Int32 × Int32)) × Sta) :=
  some (.inl (), σ)
set_option maxHeartbeats 4000000 in
set_option maxRecDepth 100000 in
theorem t_X10_must_21 {l : Launch} {D : va_G} {Y : CYs} {E : Nat → Nat} {X : List Dsc} (hX : Lok (LM ++ X)) {p : Program} {e : Env} {s : State} {m : MethodId} {args : Array Value} {below : List Frame} {meth : Method} {c : Code} (hF : Fr p s m args meth c RX10 cX10_must 4 none D Y E (LM ++ X)) {o : (Unit ⊕ (Int32 × Int32)) × Sta} (ht : l.stackTraces = false) (htab : ∀ X u, o = (.inr X, u) → ∀ x ∈ c.exceptionTable.toList, False) : ∀ (σ : Sta) (H : Heap) (locs : List Loc) (ls : Array Slot), f_X10_must_21 σ = some o → va_P D vwCl (wd Y E σ 0 (LM ++ X)) H → va_S (AF E (LM ++ X).length s.heap.size) s.heap H locs → lv_has ls 4 [] → W p l e (rmw 6 102 o) s m args below meth c H locs 0 0 (QwV below args s (LM ++ X) Y D E o) (F0 m 21 ls []) := by
  intro σ H locs ls h hP hS hl
  unfold f_X10_must_21 at h
  obtain ⟨hC, hb, hml, hr, hlk, hD, hSW⟩ := id hF
  have hx := hC.1
  exact x_vretW hF hP hS h dX10_must_21

def f_X10_must (a1 : Int32) (a2 : Int32) (a3 : Int32) (σ : Sta) : Option ((Unit ⊕ (Int32 × Int32)) × Sta) :=
  if gI σ 30 = 0 then
    f_X10_must_21 σ
  else
    if a1 = 0 then
      some (.inr (a2, a3), σ)
    else
      f_X10_must_21 σ
set_option maxHeartbeats 4000000 in
set_option maxRecDepth 100000 in
theorem c_X10_must {l : Launch} {D : va_G} {Y : CYs} {E : Nat → Nat} {X : List Dsc} (hX : Lok (LM ++ X)) {a1 : Int32} {a2 : Int32} {a3 : Int32} (ht : l.stackTraces = false) {σ : Sta} {o : (Unit ⊕ (Int32 × Int32)) × Sta} (h : f_X10_must a1 a2 a3 σ = some o) : MWV l yX10_must (Cond.code yX10_must cX10_must 4 none :: gW) 6 102 (LM ++ X) Y D E [.ref (E 0), .int a1, .int a2, .int a3] σ o := by
  refine Met_ofWV (by decide) (Nat.le_of_ble_eq_true rfl) (fun p e s m args below meth c hF hP htab ls hl => ?_)
  have hS : va_S (AF E (LM ++ X).length s.heap.size) s.heap s.heap [] := va_S.rf
  have hl : lv_has ls 4 [(0, .ref (E 0)), (1, .int a1), (2, .int a2), (3, .int a3)] := hl
  show W p l e (rmw 6 102 o) s m args below meth c s.heap [] 0 0 (QwV below args s (LM ++ X) Y D E o) (F0 m 0 ls [])
  unfold f_X10_must at h
  obtain ⟨hC, hb, hml, hr, hlk, hD, hSW⟩ := id hF
  have hx := hC.1
  refine lv_aload_n hx hb dX10_must_0 rfl (lv_at hl 0 rfl) ?_
  refine gf_X10_227 hC hb hP dX10_must_1 ?_
  refine lv_if_eq (tgt := 21) hx hb dX10_must_4 (by decide) (fun c1 => ?_) (fun c1 => ?_)
  · have h := of_t h c1
    exact t_X10_must_21 hX  hF ht htab σ _ _ _ h hP hS (lv_sub hl [] rfl)
  · have h := of_f h c1
    refine lv_iload_n hx hb dX10_must_7 rfl (lv_at hl 1 rfl) ?_
    refine lv_if_ne (tgt := 21) hx hb dX10_must_8 (by decide) (fun c2 => ?_) (fun c2 => ?_)
    · have h := of_f h c2
      exact t_X10_must_21 hX  hF ht htab σ _ _ _ h hP hS (lv_sub hl [] rfl)
    · have h := of_t h c2
      cases h
      refine x_newW hF hP hS dX10_must_11 (Nat.le_of_ble_eq_true rfl) (Nat.le_of_ble_eq_true rfl) (fun wa3 H hP hS hawa3 hnewa3 hBwa3 => ?_)
      refine lv_dup hx hb dX10_must_14 rfl ?_
      refine lv_iload_n hx hb dX10_must_15 rfl (lv_at hl 2 rfl) ?_
      refine lv_iload_n hx hb dX10_must_16 rfl (lv_at hl 3 rfl) ?_
      refine x_initW (x := (a2, a3)) (rest := [.ref wa3]) ht hF hl hP hS hawa3 hnewa3 hBwa3 rfl (Nat.le_of_ble_eq_true rfl) dX10_must_17 ⟨Nat.le_of_ble_eq_true rfl, Nat.le_of_ble_eq_true rfl⟩ ⟨Nat.le_of_ble_eq_true rfl, Nat.le_of_ble_eq_true rfl⟩ (fun H locs hP hS hWwa3 => ?_)
      exact x_throwW hF hP hS hWwa3 (htab _ _ rfl) dX10_must_20

def f_X10_take_29 (σ : Sta) : Option ((Unit ⊕ (Int32 × Int32)) × Sta) :=
  lt (sI σ 29 ((gI σ 29) + 1)) (fun σ1 =>
  some (.inl (), σ1))
set_option maxHeartbeats 4000000 in
set_option maxRecDepth 100000 in
theorem t_X10_take_29 {l : Launch} {D : va_G} {Y : CYs} {E : Nat → Nat} {X : List Dsc} (hX : Lok (LM ++ X)) {p : Program} {e : Env} {s : State} {m : MethodId} {args : Array Value} {below : List Frame} {meth : Method} {c : Code} (hF : Fr p s m args meth c RX10 cX10_take 1 none D Y E (LM ++ X)) {o : (Unit ⊕ (Int32 × Int32)) × Sta} (ht : l.stackTraces = false) (htab : ∀ X u, o = (.inr X, u) → ∀ x ∈ c.exceptionTable.toList, False) : ∀ (σ : Sta) (H : Heap) (locs : List Loc) (ls : Array Slot), f_X10_take_29 σ = some o → va_P D vwCl (wd Y E σ 0 (LM ++ X)) H → va_S (AF E (LM ++ X).length s.heap.size) s.heap H locs → lv_has ls 1 [(0, .ref (E 0))] → W p l e (rmw 7 122 o) s m args below meth c H locs 0 0 (QwV below args s (LM ++ X) Y D E o) (F0 m 29 ls []) := by
  intro σ H locs ls h hP hS hl
  unfold f_X10_take_29 at h
  obtain ⟨hC, hb, hml, hr, hlk, hD, hSW⟩ := id hF
  have hx := hC.1
  refine lv_aload_n hx hb dX10_take_29 rfl (lv_at hl 0 rfl) ?_
  refine lv_dup hx hb dX10_take_30 rfl ?_
  refine gf_X10_219 hC hb hP dX10_take_31 ?_
  refine lv_iconst (v := 1) hx hb dX10_take_34 (by decide) ?_
  refine lv_iadd hx hb dX10_take_35 ?_
  refine pf_X10_219 hX hC hb hP hD hS dX10_take_36 (fun H locs σ1 eσ1 hP hS => ?_)
  have h := of_lt h eσ1
  exact x_vretW hF hP hS h dX10_take_39

def f_X10_take (σ : Sta) : Option ((Unit ⊕ (Int32 × Int32)) × Sta) :=
  if gI σ 32 = 0 then
    bnr (f_X10_wrong σ) (fun X4 => some (.inr X4, σ))
  else
    if gI σ 32 ≤ 0 then
      f_X10_take_29 σ
    else
      lt (sI σ 32 ((gI σ 32) - 1)) (fun σ3 =>
      f_X10_take_29 σ3)
set_option maxHeartbeats 4000000 in
set_option maxRecDepth 100000 in
theorem c_X10_take {l : Launch} {D : va_G} {Y : CYs} {E : Nat → Nat} {X : List Dsc} (hX : Lok (LM ++ X)) (ht : l.stackTraces = false) {σ : Sta} {o : (Unit ⊕ (Int32 × Int32)) × Sta} (h : f_X10_take σ = some o) : MWV l yX10_take (Cond.code yX10_take cX10_take 1 none :: gW) 7 122 (LM ++ X) Y D E [.ref (E 0)] σ o := by
  refine Met_ofWV (by decide) (Nat.le_of_ble_eq_true rfl) (fun p e s m args below meth c hF hP htab ls hl => ?_)
  have hS : va_S (AF E (LM ++ X).length s.heap.size) s.heap s.heap [] := va_S.rf
  have hl : lv_has ls 1 [(0, .ref (E 0))] := hl
  show W p l e (rmw 7 122 o) s m args below meth c s.heap [] 0 0 (QwV below args s (LM ++ X) Y D E o) (F0 m 0 ls [])
  unfold f_X10_take at h
  obtain ⟨hC, hb, hml, hr, hlk, hD, hSW⟩ := id hF
  have hx := hC.1
  refine lv_aload_n hx hb dX10_take_0 rfl (lv_at hl 0 rfl) ?_
  refine gf_X10_231 hC hb hP dX10_take_1 ?_
  refine lv_if_ne (tgt := 12) hx hb dX10_take_4 (by decide) (fun c1 => ?_) (fun c1 => ?_)
  · have h := of_f h c1
    refine lv_aload_n hx hb dX10_take_12 rfl (lv_at hl 0 rfl) ?_
    refine gf_X10_231 hC hb hP dX10_take_13 ?_
    refine lv_if_le (tgt := 29) hx hb dX10_take_16 (by decide) (fun c2 => ?_) (fun c2 => ?_)
    · have h := of_t h c2
      exact t_X10_take_29 hX  hF ht htab σ _ _ _ h hP hS (lv_sub hl [0] rfl)
    · have h := of_f h c2
      refine lv_aload_n hx hb dX10_take_19 rfl (lv_at hl 0 rfl) ?_
      refine lv_dup hx hb dX10_take_20 rfl ?_
      refine gf_X10_231 hC hb hP dX10_take_21 ?_
      refine lv_iconst (v := 1) hx hb dX10_take_24 (by decide) ?_
      refine lv_isub hx hb dX10_take_25 ?_
      refine pf_X10_231 hX hC hb hP hD hS dX10_take_26 (fun H locs σ3 eσ3 hP hS => ?_)
      have h := of_lt h eσ3
      exact t_X10_take_29 hX  hF ht htab σ3 _ _ _ h hP hS (lv_sub hl [0] rfl)
  · have h := of_t h c1
    refine lv_aload_n hx hb dX10_take_7 rfl (lv_at hl 0 rfl) ?_
    obtain ⟨X4, g5, h⟩ := of_bnr h
    cases h
    refine x_VR (As := []) (rest := []) hF hl hP hS (c_X10_wrong hX ht g5) (cw_X10_234 hC rfl rfl ⟨Nat.le_of_ble_eq_true rfl, Nat.le_of_ble_eq_true rfl⟩) (lm_0 X) rfl rfl rfl (Nat.le_of_ble_eq_true rfl) dX10_take_8 ⟨Nat.le_of_ble_eq_true rfl, Nat.le_of_ble_eq_true rfl⟩ (fun wa6 H locs hP hS hWwa6 => ?_)
    exact x_throwW hF hP hS hWwa6 (htab _ _ rfl) dX10_take_11

def f_X10_take_ (a1 : Int32) (σ : Sta) : Option ((Unit ⊕ (Int32 × Int32)) × Sta) :=
  bnd (f_X10_is a1 σ) (fun r1 σ2 =>
  if r1 = 0 then
    bnr (f_X10_wrong σ2) (fun X8 => some (.inr X8, σ2))
  else
    bnw (f_X10_take σ2) (fun _ σ6 =>
    some (.inl (), σ6)))
set_option maxHeartbeats 4000000 in
set_option maxRecDepth 100000 in
theorem c_X10_take_ {l : Launch} {D : va_G} {Y : CYs} {E : Nat → Nat} {X : List Dsc} (hX : Lok (LM ++ X)) {a1 : Int32} (ht : l.stackTraces = false) {σ : Sta} {o : (Unit ⊕ (Int32 × Int32)) × Sta} (h : f_X10_take_ a1 σ = some o) : MWV l yX10_take_ (Cond.code yX10_take_ cX10_take_ 2 none :: gW) 8 142 (LM ++ X) Y D E [.ref (E 0), .int a1] σ o := by
  refine Met_ofWV (by decide) (Nat.le_of_ble_eq_true rfl) (fun p e s m args below meth c hF hP htab ls hl => ?_)
  have hS : va_S (AF E (LM ++ X).length s.heap.size) s.heap s.heap [] := va_S.rf
  have hl : lv_has ls 2 [(0, .ref (E 0)), (1, .int a1)] := hl
  show W p l e (rmw 8 142 o) s m args below meth c s.heap [] 0 0 (QwV below args s (LM ++ X) Y D E o) (F0 m 0 ls [])
  unfold f_X10_take_ at h
  obtain ⟨hC, hb, hml, hr, hlk, hD, hSW⟩ := id hF
  have hx := hC.1
  refine lv_aload_n hx hb dX10_take__0 rfl (lv_at hl 0 rfl) ?_
  refine lv_iload_n hx hb dX10_take__1 rfl (lv_at hl 1 rfl) ?_
  obtain ⟨r1, σ2, g3, h⟩ := of_bnd h
  refine x_VI (As := [.int a1]) (rest := []) hF hl hP hS (c_X10_is hX g3) (cw_X10_238 hC rfl rfl ⟨Nat.le_of_ble_eq_true rfl, Nat.le_of_ble_eq_true rfl⟩) (lm_0 X) rfl rfl rfl (Nat.le_of_ble_eq_true rfl) dX10_take__2 ⟨Nat.zero_le _, Nat.zero_le _⟩ (fun H locs hP hS => ?_)
  refine lv_if_ne (tgt := 13) hx hb dX10_take__5 (by decide) (fun c4 => ?_) (fun c4 => ?_)
  · have h := of_f h c4
    refine lv_aload_n hx hb dX10_take__13 rfl (lv_at hl 0 rfl) ?_
    rcases of_bnw h with ⟨r5, σ6, g7, h⟩ | ⟨Xx, σ6, g7, rfl⟩
    rotate_left
    · exact x_VTw (As := []) (rest := []) hF hl hP hS (c_X10_take hX ht g7) (cw_X10_241 hC rfl rfl ⟨Nat.le_of_ble_eq_true rfl, Nat.le_of_ble_eq_true rfl⟩) (lm_0 X) rfl rfl rfl (Nat.le_of_ble_eq_true rfl) dX10_take__14 ⟨Nat.le_refl _, Nat.le_refl _⟩ (htab _ _ rfl)
    refine x_VV (As := []) (rest := []) hF hl hP hS (c_X10_take hX ht g7) (cw_X10_241 hC rfl rfl ⟨Nat.le_of_ble_eq_true rfl, Nat.le_of_ble_eq_true rfl⟩) (lm_0 X) rfl rfl rfl (Nat.le_of_ble_eq_true rfl) dX10_take__14 ⟨Nat.zero_le _, Nat.zero_le _⟩ (fun H locs hP hS => ?_)
    exact x_vretW hF hP hS h dX10_take__17
  · have h := of_t h c4
    refine lv_aload_n hx hb dX10_take__8 rfl (lv_at hl 0 rfl) ?_
    obtain ⟨X8, g9, h⟩ := of_bnr h
    cases h
    refine x_VR (As := []) (rest := []) hF hl hP hS (c_X10_wrong hX ht g9) (cw_X10_234 hC rfl rfl ⟨Nat.le_of_ble_eq_true rfl, Nat.le_of_ble_eq_true rfl⟩) (lm_0 X) rfl rfl rfl (Nat.le_of_ble_eq_true rfl) dX10_take__9 ⟨Nat.le_of_ble_eq_true rfl, Nat.le_of_ble_eq_true rfl⟩ (fun wa10 H locs hP hS hWwa10 => ?_)
    exact x_throwW hF hP hS hWwa10 (htab _ _ rfl) dX10_take__12

def f_X10_deeper (σ : Sta) : Option ((Unit ⊕ (Int32 × Int32)) × Sta) :=
  if gI σ 31 = 8 then
    bnr (f_X10_wrong σ) (fun X3 => some (.inr X3, σ))
  else
    lt (sI σ 31 ((gI σ 31) + 1)) (fun σ2 =>
    some (.inl (), σ2))
set_option maxHeartbeats 4000000 in
set_option maxRecDepth 100000 in
theorem c_X10_deeper {l : Launch} {D : va_G} {Y : CYs} {E : Nat → Nat} {X : List Dsc} (hX : Lok (LM ++ X)) (ht : l.stackTraces = false) {σ : Sta} {o : (Unit ⊕ (Int32 × Int32)) × Sta} (h : f_X10_deeper σ = some o) : MWV l yX10_deeper (Cond.code yX10_deeper cX10_deeper 1 none :: gW) 7 122 (LM ++ X) Y D E [.ref (E 0)] σ o := by
  refine Met_ofWV (by decide) (Nat.le_of_ble_eq_true rfl) (fun p e s m args below meth c hF hP htab ls hl => ?_)
  have hS : va_S (AF E (LM ++ X).length s.heap.size) s.heap s.heap [] := va_S.rf
  have hl : lv_has ls 1 [(0, .ref (E 0))] := hl
  show W p l e (rmw 7 122 o) s m args below meth c s.heap [] 0 0 (QwV below args s (LM ++ X) Y D E o) (F0 m 0 ls [])
  unfold f_X10_deeper at h
  obtain ⟨hC, hb, hml, hr, hlk, hD, hSW⟩ := id hF
  have hx := hC.1
  refine lv_aload_n hx hb dX10_deeper_0 rfl (lv_at hl 0 rfl) ?_
  refine gf_X10_244 hC hb hP dX10_deeper_1 ?_
  refine lv_bipush (v := 8) hx hb dX10_deeper_4 (by decide) ?_
  refine lv_icmp_ne (tgt := 14) hx hb dX10_deeper_6 (by decide) (fun c1 => ?_) (fun c1 => ?_)
  · have h := of_f h c1
    refine lv_aload_n hx hb dX10_deeper_14 rfl (lv_at hl 0 rfl) ?_
    refine lv_dup hx hb dX10_deeper_15 rfl ?_
    refine gf_X10_244 hC hb hP dX10_deeper_16 ?_
    refine lv_iconst (v := 1) hx hb dX10_deeper_19 (by decide) ?_
    refine lv_iadd hx hb dX10_deeper_20 ?_
    refine pf_X10_244 hX hC hb hP hD hS dX10_deeper_21 (fun H locs σ2 eσ2 hP hS => ?_)
    have h := of_lt h eσ2
    exact x_vretW hF hP hS h dX10_deeper_24
  · have h := of_t h c1
    refine lv_aload_n hx hb dX10_deeper_9 rfl (lv_at hl 0 rfl) ?_
    obtain ⟨X3, g4, h⟩ := of_bnr h
    cases h
    refine x_VR (As := []) (rest := []) hF hl hP hS (c_X10_wrong hX ht g4) (cw_X10_234 hC rfl rfl ⟨Nat.le_of_ble_eq_true rfl, Nat.le_of_ble_eq_true rfl⟩) (lm_0 X) rfl rfl rfl (Nat.le_of_ble_eq_true rfl) dX10_deeper_10 ⟨Nat.le_of_ble_eq_true rfl, Nat.le_of_ble_eq_true rfl⟩ (fun wa5 H locs hP hS hWwa5 => ?_)
    exact x_throwW hF hP hS hWwa5 (htab _ _ rfl) dX10_deeper_13

abbrev rm_X10_emit : Room := { frames := 0, cells := 0, slots := 0, locals := 0 }
def f_X10_emit (a1 : Int32) (a2 : Int64) (σ : Sta) : Option (Unit × Sta) :=
  if gI σ 30 = 0 then
    some ((), σ)
  else
    if gI σ 26 < 0 ∨ 3004 ≤ ((gI σ 26).toNatClampNeg) then none else (
    lt (sA σ 19 (upd (gA σ 19) ((gI σ 26).toNatClampNeg) a1)) (fun σ3 =>
    if gI σ3 26 < 0 ∨ 3004 ≤ ((gI σ3 26).toNatClampNeg) then none else (
    lt (sJ σ3 20 (vp_updL (gJ σ3 20) ((gI σ3 26).toNatClampNeg) a2)) (fun σ5 =>
    lt (sI σ5 26 ((gI σ5 26) + 1)) (fun σ6 =>
    some ((), σ6))))))
set_option maxHeartbeats 4000000 in
set_option maxRecDepth 100000 in
theorem c_X10_emit {l : Launch} {D : va_G} {Y : CYs} {E : Nat → Nat} {X : List Dsc} (hX : Lok (LM ++ X)) {a1 : Int32} {a2 : Int64} {σ : Sta} {o : Unit × Sta} (h : f_X10_emit a1 a2 σ = some o) : MV l yX10_emit (Cond.code yX10_emit cX10_emit 4 none :: gW) rm_X10_emit (LM ++ X) Y D E [.ref (E 0), .int a1, .long a2] σ o := by
  intro sz
  refine Met_of (Qc := fun sz => QV (LM ++ X) Y D E sz o) (by decide) (Nat.le_of_ble_eq_true rfl) (fun p e s m args below meth c hF hP ls hl => ?_) sz
  have hS : va_S (AF E (LM ++ X).length s.heap.size) s.heap s.heap [] := va_S.rf
  have hl : lv_has ls 4 [(0, .ref (E 0)), (1, .int a1), (2, .long a2)] := hl
  show WV p l e rm_X10_emit s m args below meth c (LM ++ X) Y D E o s.heap [] (F0 m 0 ls [])
  unfold f_X10_emit at h
  obtain ⟨hC, hb, hml, hr, hlk, hD, hSW⟩ := id hF
  have hx := hC.1
  refine lv_aload_n hx hb dX10_emit_0 rfl (lv_at hl 0 rfl) ?_
  refine gf_X10_227 hC hb hP dX10_emit_1 ?_
  refine lv_if_ne (tgt := 8) hx hb dX10_emit_4 (by decide) (fun c1 => ?_) (fun c1 => ?_)
  · have h := of_f h c1
    refine lv_aload_n hx hb dX10_emit_8 rfl (lv_at hl 0 rfl) ?_
    refine gf_X10_65 hC hb hP dX10_emit_9 ?_
    refine lv_aload_n hx hb dX10_emit_12 rfl (lv_at hl 0 rfl) ?_
    refine gf_X10_210 hC hb hP dX10_emit_13 ?_
    refine lv_iload_n hx hb dX10_emit_16 rfl (lv_at hl 1 rfl) ?_
    obtain ⟨g2, h⟩ := of_gd h
    refine x_iast hX hC hb hP hD hS (lm_19 X) g2 dX10_emit_17 (fun H locs σ3 eσ3 hP hS => ?_)
    have h := of_lt h eσ3
    refine lv_aload_n hx hb dX10_emit_18 rfl (lv_at hl 0 rfl) ?_
    refine gf_X10_68 hC hb hP dX10_emit_19 ?_
    refine lv_aload_n hx hb dX10_emit_22 rfl (lv_at hl 0 rfl) ?_
    refine gf_X10_210 hC hb hP dX10_emit_23 ?_
    refine lv_lload_n hx hb dX10_emit_26 rfl (lv_at hl 2 rfl) ?_
    obtain ⟨g4, h⟩ := of_gd h
    refine x_last hX hC hb hP hD hS (lm_20 X) g4 dX10_emit_27 (fun H locs σ5 eσ5 hP hS => ?_)
    have h := of_lt h eσ5
    refine lv_aload_n hx hb dX10_emit_28 rfl (lv_at hl 0 rfl) ?_
    refine lv_dup hx hb dX10_emit_29 rfl ?_
    refine gf_X10_210 hC hb hP dX10_emit_30 ?_
    refine lv_iconst (v := 1) hx hb dX10_emit_33 (by decide) ?_
    refine lv_iadd hx hb dX10_emit_34 ?_
    refine pf_X10_210 hX hC hb hP hD hS dX10_emit_35 (fun H locs σ6 eσ6 hP hS => ?_)
    have h := of_lt h eσ6
    exact x_vret hF hP hS h dX10_emit_38
  · have h := of_t h c1
    exact x_vret hF hP hS h dX10_emit_7

def f_X10_open (σ : Sta) : Option ((Unit ⊕ (Int32 × Int32)) × Sta) :=
  bnd (f_X10_is 100 σ) (fun r1 σ2 =>
  if r1 = 0 then
    bnr (f_X10_wrong σ2) (fun X11 => some (.inr X11, σ2))
  else
    bnw (f_X10_deeper σ2) (fun _ σ6 =>
    bnw (f_X10_take σ6) (fun _ σ9 =>
    some (.inl (), σ9))))
set_option maxHeartbeats 4000000 in
set_option maxRecDepth 100000 in
theorem c_X10_open {l : Launch} {D : va_G} {Y : CYs} {E : Nat → Nat} {X : List Dsc} (hX : Lok (LM ++ X)) (ht : l.stackTraces = false) {σ : Sta} {o : (Unit ⊕ (Int32 × Int32)) × Sta} (h : f_X10_open σ = some o) : MWV l yX10_open (Cond.code yX10_open cX10_open 1 none :: gW) 8 142 (LM ++ X) Y D E [.ref (E 0)] σ o := by
  refine Met_ofWV (by decide) (Nat.le_of_ble_eq_true rfl) (fun p e s m args below meth c hF hP htab ls hl => ?_)
  have hS : va_S (AF E (LM ++ X).length s.heap.size) s.heap s.heap [] := va_S.rf
  have hl : lv_has ls 1 [(0, .ref (E 0))] := hl
  show W p l e (rmw 8 142 o) s m args below meth c s.heap [] 0 0 (QwV below args s (LM ++ X) Y D E o) (F0 m 0 ls [])
  unfold f_X10_open at h
  obtain ⟨hC, hb, hml, hr, hlk, hD, hSW⟩ := id hF
  have hx := hC.1
  refine lv_aload_n hx hb dX10_open_0 rfl (lv_at hl 0 rfl) ?_
  refine lv_bipush (v := 100) hx hb dX10_open_1 (by decide) ?_
  obtain ⟨r1, σ2, g3, h⟩ := of_bnd h
  refine x_VI (As := [.int 100]) (rest := []) hF hl hP hS (c_X10_is hX g3) (cw_X10_238 hC rfl rfl ⟨Nat.le_of_ble_eq_true rfl, Nat.le_of_ble_eq_true rfl⟩) (lm_0 X) rfl rfl rfl (Nat.le_of_ble_eq_true rfl) dX10_open_3 ⟨Nat.zero_le _, Nat.zero_le _⟩ (fun H locs hP hS => ?_)
  refine lv_if_ne (tgt := 14) hx hb dX10_open_6 (by decide) (fun c4 => ?_) (fun c4 => ?_)
  · have h := of_f h c4
    refine lv_aload_n hx hb dX10_open_14 rfl (lv_at hl 0 rfl) ?_
    rcases of_bnw h with ⟨r5, σ6, g7, h⟩ | ⟨Xx, σ6, g7, rfl⟩
    rotate_left
    · exact x_VTw (As := []) (rest := []) hF hl hP hS (c_X10_deeper hX ht g7) (cw_X10_277 hC rfl rfl ⟨Nat.le_of_ble_eq_true rfl, Nat.le_of_ble_eq_true rfl⟩) (lm_0 X) rfl rfl rfl (Nat.le_of_ble_eq_true rfl) dX10_open_15 ⟨Nat.le_refl _, Nat.le_refl _⟩ (htab _ _ rfl)
    refine x_VV (As := []) (rest := []) hF hl hP hS (c_X10_deeper hX ht g7) (cw_X10_277 hC rfl rfl ⟨Nat.le_of_ble_eq_true rfl, Nat.le_of_ble_eq_true rfl⟩) (lm_0 X) rfl rfl rfl (Nat.le_of_ble_eq_true rfl) dX10_open_15 ⟨Nat.zero_le _, Nat.zero_le _⟩ (fun H locs hP hS => ?_)
    refine lv_aload_n hx hb dX10_open_18 rfl (lv_at hl 0 rfl) ?_
    rcases of_bnw h with ⟨r8, σ9, g10, h⟩ | ⟨Xx, σ9, g10, rfl⟩
    rotate_left
    · exact x_VTw (As := []) (rest := []) hF hl hP hS (c_X10_take hX ht g10) (cw_X10_241 hC rfl rfl ⟨Nat.le_of_ble_eq_true rfl, Nat.le_of_ble_eq_true rfl⟩) (lm_0 X) rfl rfl rfl (Nat.le_of_ble_eq_true rfl) dX10_open_19 ⟨Nat.le_refl _, Nat.le_refl _⟩ (htab _ _ rfl)
    refine x_VV (As := []) (rest := []) hF hl hP hS (c_X10_take hX ht g10) (cw_X10_241 hC rfl rfl ⟨Nat.le_of_ble_eq_true rfl, Nat.le_of_ble_eq_true rfl⟩) (lm_0 X) rfl rfl rfl (Nat.le_of_ble_eq_true rfl) dX10_open_19 ⟨Nat.zero_le _, Nat.zero_le _⟩ (fun H locs hP hS => ?_)
    exact x_vretW hF hP hS h dX10_open_22
  · have h := of_t h c4
    refine lv_aload_n hx hb dX10_open_9 rfl (lv_at hl 0 rfl) ?_
    obtain ⟨X11, g12, h⟩ := of_bnr h
    cases h
    refine x_VR (As := []) (rest := []) hF hl hP hS (c_X10_wrong hX ht g12) (cw_X10_234 hC rfl rfl ⟨Nat.le_of_ble_eq_true rfl, Nat.le_of_ble_eq_true rfl⟩) (lm_0 X) rfl rfl rfl (Nat.le_of_ble_eq_true rfl) dX10_open_10 ⟨Nat.le_of_ble_eq_true rfl, Nat.le_of_ble_eq_true rfl⟩ (fun wa13 H locs hP hS hWwa13 => ?_)
    exact x_throwW hF hP hS hWwa13 (htab _ _ rfl) dX10_open_13

def f_X10_close (σ : Sta) : Option ((Unit ⊕ (Int32 × Int32)) × Sta) :=
  bnw (f_X10_take_ 101 σ) (fun _ σ2 =>
  lt (sI σ2 31 ((gI σ2 31) - 1)) (fun σ4 =>
  some (.inl (), σ4)))
set_option maxHeartbeats 4000000 in
set_option maxRecDepth 100000 in
theorem c_X10_close {l : Launch} {D : va_G} {Y : CYs} {E : Nat → Nat} {X : List Dsc} (hX : Lok (LM ++ X)) (ht : l.stackTraces = false) {σ : Sta} {o : (Unit ⊕ (Int32 × Int32)) × Sta} (h : f_X10_close σ = some o) : MWV l yX10_close (Cond.code yX10_close cX10_close 1 none :: gW) 9 163 (LM ++ X) Y D E [.ref (E 0)] σ o := by
  refine Met_ofWV (by decide) (Nat.le_of_ble_eq_true rfl) (fun p e s m args below meth c hF hP htab ls hl => ?_)
  have hS : va_S (AF E (LM ++ X).length s.heap.size) s.heap s.heap [] := va_S.rf
  have hl : lv_has ls 1 [(0, .ref (E 0))] := hl
  show W p l e (rmw 9 163 o) s m args below meth c s.heap [] 0 0 (QwV below args s (LM ++ X) Y D E o) (F0 m 0 ls [])
  unfold f_X10_close at h
  obtain ⟨hC, hb, hml, hr, hlk, hD, hSW⟩ := id hF
  have hx := hC.1
  refine lv_aload_n hx hb dX10_close_0 rfl (lv_at hl 0 rfl) ?_
  refine lv_bipush (v := 101) hx hb dX10_close_1 (by decide) ?_
  rcases of_bnw h with ⟨r1, σ2, g3, h⟩ | ⟨Xx, σ2, g3, rfl⟩
  rotate_left
  · exact x_VTw (As := [.int 101]) (rest := []) hF hl hP hS (c_X10_take_ hX ht g3) (cw_X10_286 hC rfl rfl ⟨Nat.le_of_ble_eq_true rfl, Nat.le_of_ble_eq_true rfl⟩) (lm_0 X) rfl rfl rfl (Nat.le_of_ble_eq_true rfl) dX10_close_3 ⟨Nat.le_refl _, Nat.le_refl _⟩ (htab _ _ rfl)
  refine x_VV (As := [.int 101]) (rest := []) hF hl hP hS (c_X10_take_ hX ht g3) (cw_X10_286 hC rfl rfl ⟨Nat.le_of_ble_eq_true rfl, Nat.le_of_ble_eq_true rfl⟩) (lm_0 X) rfl rfl rfl (Nat.le_of_ble_eq_true rfl) dX10_close_3 ⟨Nat.zero_le _, Nat.zero_le _⟩ (fun H locs hP hS => ?_)
  refine lv_aload_n hx hb dX10_close_6 rfl (lv_at hl 0 rfl) ?_
  refine lv_dup hx hb dX10_close_7 rfl ?_
  refine gf_X10_244 hC hb hP dX10_close_8 ?_
  refine lv_iconst (v := 1) hx hb dX10_close_11 (by decide) ?_
  refine lv_isub hx hb dX10_close_12 ?_
  refine pf_X10_244 hX hC hb hP hD hS dX10_close_13 (fun H locs σ4 eσ4 hP hS => ?_)
  have h := of_lt h eσ4
  exact x_vretW hF hP hS h dX10_close_16

def f_X10_variableHere_43 (v1 : Int32) (s0 : Int32) (σ : Sta) : Option ((Int32 ⊕ (Int32 × Int32)) × Sta) :=
  if gI σ 29 < 0 ∨ 1501 ≤ ((gI σ 29).toNatClampNeg) then none else (
  bnw (f_X10_must s0 2 (gA σ 4 ((gI σ 29).toNatClampNeg)) σ) (fun _ σ3 =>
  some (.inl v1, σ3)))
set_option maxHeartbeats 4000000 in
set_option maxRecDepth 100000 in
theorem t_X10_variableHere_43 {l : Launch} {D : va_G} {Y : CYs} {E : Nat → Nat} {X : List Dsc} (hX : Lok (LM ++ X)) {p : Program} {e : Env} {s : State} {m : MethodId} {args : Array Value} {below : List Frame} {meth : Method} {c : Code} (hF : Fr p s m args meth c RX10 cX10_variableHere 2 (some .int) D Y E (LM ++ X)) {o : (Int32 ⊕ (Int32 × Int32)) × Sta} (ht : l.stackTraces = false) (htab : ∀ X u, o = (.inr X, u) → ∀ x ∈ c.exceptionTable.toList, False) : ∀ (v1 : Int32) (s0 : Int32) (σ : Sta) (H : Heap) (locs : List Loc) (ls : Array Slot), f_X10_variableHere_43 v1 s0 σ = some o → va_P D vwCl (wd Y E σ 0 (LM ++ X)) H → va_S (AF E (LM ++ X).length s.heap.size) s.heap H locs → lv_has ls 2 [(0, .ref (E 0)), (1, .int v1)] → W p l e (rmw 7 125 o) s m args below meth c H locs 0 0 (QwI below args s (LM ++ X) Y D E o) (F0 m 43 ls [.int s0, .ref (E 0)]) := by
  intro v1 s0 σ H locs ls h hP hS hl
  unfold f_X10_variableHere_43 at h
  obtain ⟨hC, hb, hml, hr, hlk, hD, hSW⟩ := id hF
  have hx := hC.1
  refine lv_iconst (v := 2) hx hb dX10_variableHere_43 (by decide) ?_
  refine lv_aload_n hx hb dX10_variableHere_44 rfl (lv_at hl 0 rfl) ?_
  refine gf_X10_20 hC hb hP dX10_variableHere_45 ?_
  refine lv_aload_n hx hb dX10_variableHere_48 rfl (lv_at hl 0 rfl) ?_
  refine gf_X10_219 hC hb hP dX10_variableHere_49 ?_
  obtain ⟨g1, h⟩ := of_gd h
  refine x_iald hC hb hP (lm_4 X) g1 dX10_variableHere_52 ?_
  rcases of_bnw h with ⟨r2, σ3, g4, h⟩ | ⟨Xx, σ3, g4, rfl⟩
  rotate_left
  · exact x_VTw (As := [.int s0, .int 2, .int (gA σ 4 ((gI σ 29).toNatClampNeg))]) (rest := []) hF hl hP hS (c_X10_must hX ht g4) (cw_X10_288 hC rfl rfl ⟨Nat.le_of_ble_eq_true rfl, Nat.le_of_ble_eq_true rfl⟩) (lm_0 X) rfl rfl rfl (Nat.le_of_ble_eq_true rfl) dX10_variableHere_53 ⟨Nat.le_refl _, Nat.le_refl _⟩ (htab _ _ rfl)
  refine x_VV (As := [.int s0, .int 2, .int (gA σ 4 ((gI σ 29).toNatClampNeg))]) (rest := []) hF hl hP hS (c_X10_must hX ht g4) (cw_X10_288 hC rfl rfl ⟨Nat.le_of_ble_eq_true rfl, Nat.le_of_ble_eq_true rfl⟩) (lm_0 X) rfl rfl rfl (Nat.le_of_ble_eq_true rfl) dX10_variableHere_53 ⟨Nat.zero_le _, Nat.zero_le _⟩ (fun H locs hP hS => ?_)
  refine lv_iload_n hx hb dX10_variableHere_56 rfl (lv_at hl 1 rfl) ?_
  exact x_iretW hF hP hS h dX10_variableHere_57

def f_X10_variableHere_31 (s0 : Int32) (σ : Sta) : Option ((Int32 ⊕ (Int32 × Int32)) × Sta) :=
  if s0 = -1 then
    f_X10_variableHere_43 s0 0 σ
  else
    f_X10_variableHere_43 s0 1 σ
set_option maxHeartbeats 4000000 in
set_option maxRecDepth 100000 in
theorem t_X10_variableHere_31 {l : Launch} {D : va_G} {Y : CYs} {E : Nat → Nat} {X : List Dsc} (hX : Lok (LM ++ X)) {p : Program} {e : Env} {s : State} {m : MethodId} {args : Array Value} {below : List Frame} {meth : Method} {c : Code} (hF : Fr p s m args meth c RX10 cX10_variableHere 2 (some .int) D Y E (LM ++ X)) {o : (Int32 ⊕ (Int32 × Int32)) × Sta} (ht : l.stackTraces = false) (htab : ∀ X u, o = (.inr X, u) → ∀ x ∈ c.exceptionTable.toList, False) : ∀ (s0 : Int32) (σ : Sta) (H : Heap) (locs : List Loc) (ls : Array Slot), f_X10_variableHere_31 s0 σ = some o → va_P D vwCl (wd Y E σ 0 (LM ++ X)) H → va_S (AF E (LM ++ X).length s.heap.size) s.heap H locs → lv_has ls 2 [(0, .ref (E 0))] → W p l e (rmw 7 125 o) s m args below meth c H locs 0 0 (QwI below args s (LM ++ X) Y D E o) (F0 m 31 ls [.int s0]) := by
  intro s0 σ H locs ls h hP hS hl
  unfold f_X10_variableHere_31 at h
  obtain ⟨hC, hb, hml, hr, hlk, hD, hSW⟩ := id hF
  have hx := hC.1
  refine lv_istore_n (lv' := [(1, .int s0), (0, .ref (E 0))]) hx hb dX10_variableHere_31 rfl hl (by decide) rfl (fun ls hl => ?_)
  refine lv_aload_n hx hb dX10_variableHere_32 rfl (lv_at hl 1 rfl) ?_
  refine lv_iload_n hx hb dX10_variableHere_33 rfl (lv_at hl 0 rfl) ?_
  refine lv_iconst (v := -1) hx hb dX10_variableHere_34 (by decide) ?_
  refine lv_icmp_eq (tgt := 42) hx hb dX10_variableHere_35 (by decide) (fun c1 => ?_) (fun c1 => ?_)
  · have h := of_t h c1
    refine lv_iconst (v := 0) hx hb dX10_variableHere_42 (by decide) ?_
    exact t_X10_variableHere_43 hX  hF ht htab s0 0 σ _ _ _ h hP hS (lv_sub hl [1, 0] rfl)
  · have h := of_f h c1
    refine lv_iconst (v := 1) hx hb dX10_variableHere_38 (by decide) ?_
    refine lv_goto (tgt := 43) hx hb dX10_variableHere_39 (by decide) ?_
    exact t_X10_variableHere_43 hX  hF ht htab s0 1 σ _ _ _ h hP hS (lv_sub hl [1, 0] rfl)

def f_X10_variableHere (σ : Sta) : Option ((Int32 ⊕ (Int32 × Int32)) × Sta) :=
  if gI σ 30 = 0 then
    f_X10_variableHere_31 0 σ
  else
    if gI σ 29 < 0 ∨ 1501 ≤ ((gI σ 29).toNatClampNeg) then none else (
    bnd (f_X10_indexOf 7 6 (gI σ 10) (gJ σ 5 ((gI σ 29).toNatClampNeg)) σ) (fun r3 σ4 =>
    f_X10_variableHere_31 r3 σ4))
set_option maxHeartbeats 4000000 in
set_option maxRecDepth 100000 in
theorem c_X10_variableHere {l : Launch} {D : va_G} {Y : CYs} {E : Nat → Nat} {X : List Dsc} (hX : Lok (LM ++ X)) (ht : l.stackTraces = false) {σ : Sta} {o : (Int32 ⊕ (Int32 × Int32)) × Sta} (h : f_X10_variableHere σ = some o) : MWI l yX10_variableHere (Cond.code yX10_variableHere cX10_variableHere 2 (some .int) :: gW) 7 125 (LM ++ X) Y D E [.ref (E 0)] σ o := by
  refine Met_ofWI (by decide) (Nat.le_of_ble_eq_true rfl) (fun p e s m args below meth c hF hP htab ls hl => ?_)
  have hS : va_S (AF E (LM ++ X).length s.heap.size) s.heap s.heap [] := va_S.rf
  have hl : lv_has ls 2 [(0, .ref (E 0))] := hl
  show W p l e (rmw 7 125 o) s m args below meth c s.heap [] 0 0 (QwI below args s (LM ++ X) Y D E o) (F0 m 0 ls [])
  unfold f_X10_variableHere at h
  obtain ⟨hC, hb, hml, hr, hlk, hD, hSW⟩ := id hF
  have hx := hC.1
  refine lv_aload_n hx hb dX10_variableHere_0 rfl (lv_at hl 0 rfl) ?_
  refine gf_X10_227 hC hb hP dX10_variableHere_1 ?_
  refine lv_if_eq (tgt := 30) hx hb dX10_variableHere_4 (by decide) (fun c1 => ?_) (fun c1 => ?_)
  · have h := of_t h c1
    refine lv_iconst (v := 0) hx hb dX10_variableHere_30 (by decide) ?_
    exact t_X10_variableHere_31 hX  hF ht htab 0 σ _ _ _ h hP hS (lv_sub hl [0] rfl)
  · have h := of_f h c1
    refine lv_aload_n hx hb dX10_variableHere_7 rfl (lv_at hl 0 rfl) ?_
    refine gf_X10_29 hC hb hP dX10_variableHere_8 ?_
    refine lv_aload_n hx hb dX10_variableHere_11 rfl (lv_at hl 0 rfl) ?_
    refine gf_X10_198 hC hb hP dX10_variableHere_12 ?_
    refine lv_aload_n hx hb dX10_variableHere_15 rfl (lv_at hl 0 rfl) ?_
    refine gf_X10_23 hC hb hP dX10_variableHere_16 ?_
    refine lv_aload_n hx hb dX10_variableHere_19 rfl (lv_at hl 0 rfl) ?_
    refine gf_X10_219 hC hb hP dX10_variableHere_20 ?_
    obtain ⟨g2, h⟩ := of_gd h
    refine x_lald hC hb hP (lm_5 X) g2 dX10_variableHere_23 ?_
    obtain ⟨r3, σ4, g5, h⟩ := of_bnd h
    refine x_SI (As := [.ref (E 7), .int (gI σ 10), .long (gJ σ 5 ((gI σ 29).toNatClampNeg))]) (rest := []) hF hl hP hS (c_X10_indexOf hX (lm_7 X) g5) (cw_X10_183 hC rfl rfl ⟨Nat.le_of_ble_eq_true rfl, Nat.le_of_ble_eq_true rfl⟩) rfl rfl (Nat.le_of_ble_eq_true rfl) dX10_variableHere_24 ⟨Nat.zero_le _, Nat.zero_le _⟩ (fun H locs hP hS => ?_)
    refine lv_goto (tgt := 31) hx hb dX10_variableHere_27 (by decide) ?_
    exact t_X10_variableHere_31 hX  hF ht htab r3 σ4 _ _ _ h hP hS (lv_sub hl [0] rfl)

def f_X10_expression_4 (r_X10_expression : Sta → Option ((Unit ⊕ (Int32 × Int32)) × Sta)) (r_X10_both : Sta → Option ((Unit ⊕ (Int32 × Int32)) × Sta)) (r_X10_relation : Sta → Option ((Unit ⊕ (Int32 × Int32)) × Sta)) (r_X10_sum : Sta → Option ((Unit ⊕ (Int32 × Int32)) × Sta)) (r_X10_product : Sta → Option ((Unit ⊕ (Int32 × Int32)) × Sta)) (r_X10_factor : Sta → Option ((Unit ⊕ (Int32 × Int32)) × Sta)) : Nat → Sta → Option ((Unit ⊕ (Int32 × Int32)) × Sta)
  | 0, _ => none
  | n + 1, σ => bnd (f_X10_is 12 σ) (fun r1 σ2 =>
    if r1 = 0 then
      some (.inl (), σ2)
    else
      bnw (f_X10_take σ2) (fun _ σ6 =>
      bnw (r_X10_both σ6) (fun _ σ9 =>
      bnd (f_X10_emit 31 0 σ9) (fun _ σ12 =>
      f_X10_expression_4 r_X10_expression r_X10_both r_X10_relation r_X10_sum r_X10_product r_X10_factor n σ12))))
set_option maxHeartbeats 4000000 in
set_option maxRecDepth 100000 in
theorem t_X10_expression_4 {l : Launch} {D : va_G} {Y : CYs} {E : Nat → Nat} {X : List Dsc} (hX : Lok (LM ++ X)) {p : Program} {e : Env} {s : State} {m : MethodId} {args : Array Value} {below : List Frame} {meth : Method} {c : Code} {r_X10_expression : Sta → Option ((Unit ⊕ (Int32 × Int32)) × Sta)} {r_X10_both : Sta → Option ((Unit ⊕ (Int32 × Int32)) × Sta)} {r_X10_relation : Sta → Option ((Unit ⊕ (Int32 × Int32)) × Sta)} {r_X10_sum : Sta → Option ((Unit ⊕ (Int32 × Int32)) × Sta)} {r_X10_product : Sta → Option ((Unit ⊕ (Int32 × Int32)) × Sta)} {r_X10_factor : Sta → Option ((Unit ⊕ (Int32 × Int32)) × Sta)} {dd : Nat} (hr_X10_expression : ∀ (σ : Sta) (o : (Unit ⊕ (Int32 × Int32)) × Sta), r_X10_expression σ = some o → MWV l yX10_expression (Cond.code yX10_expression cX10_expression 1 none :: gW) (dd + 10) (40 * dd + 183) (LM ++ X) Y D E [.ref (E 0)] σ o) (hr_X10_both : ∀ (σ : Sta) (o : (Unit ⊕ (Int32 × Int32)) × Sta), r_X10_both σ = some o → MWV l yX10_both (Cond.code yX10_both cX10_both 1 none :: gW) (dd + 10) (40 * dd + 183) (LM ++ X) Y D E [.ref (E 0)] σ o) (hr_X10_relation : ∀ (σ : Sta) (o : (Unit ⊕ (Int32 × Int32)) × Sta), r_X10_relation σ = some o → MWV l yX10_relation (Cond.code yX10_relation cX10_relation 2 none :: gW) (dd + 10) (40 * dd + 183) (LM ++ X) Y D E [.ref (E 0)] σ o) (hr_X10_sum : ∀ (σ : Sta) (o : (Unit ⊕ (Int32 × Int32)) × Sta), r_X10_sum σ = some o → MWV l yX10_sum (Cond.code yX10_sum cX10_sum 2 none :: gW) (dd + 10) (40 * dd + 183) (LM ++ X) Y D E [.ref (E 0)] σ o) (hr_X10_product : ∀ (σ : Sta) (o : (Unit ⊕ (Int32 × Int32)) × Sta), r_X10_product σ = some o → MWV l yX10_product (Cond.code yX10_product cX10_product 2 none :: gW) (dd + 10) (40 * dd + 183) (LM ++ X) Y D E [.ref (E 0)] σ o) (hr_X10_factor : ∀ (σ : Sta) (o : (Unit ⊕ (Int32 × Int32)) × Sta), r_X10_factor σ = some o → MWV l yX10_factor (Cond.code yX10_factor cX10_factor 2 none :: gW) (dd + 10) (40 * dd + 183) (LM ++ X) Y D E [.ref (E 0)] σ o) (hF : Fr p s m args meth c RX10 cX10_expression 1 none D Y E (LM ++ X)) {o : (Unit ⊕ (Int32 × Int32)) × Sta} (ht : l.stackTraces = false) (htab : ∀ X u, o = (.inr X, u) → ∀ x ∈ c.exceptionTable.toList, False) : ∀ (n : Nat) (σ : Sta) (H : Heap) (locs : List Loc) (ls : Array Slot), f_X10_expression_4 r_X10_expression r_X10_both r_X10_relation r_X10_sum r_X10_product r_X10_factor n σ = some o → va_P D vwCl (wd Y E σ 0 (LM ++ X)) H → va_S (AF E (LM ++ X).length s.heap.size) s.heap H locs → lv_has ls 1 [(0, .ref (E 0))] → W p l e (rmw (dd + 1 + 10) (40 * (dd + 1) + 183) o) s m args below meth c H locs 0 0 (QwV below args s (LM ++ X) Y D E o) (F0 m 4 ls []) := by
  intro n
  induction n with
  | zero =>
    intro σ H locs ls h hP hS hl
    exact nomatch (show (none : Option ((Unit ⊕ (Int32 × Int32)) × Sta)) = some o from h)
  | succ n ih =>
    intro σ H locs ls h hP hS hl
    rw [f_X10_expression_4] at h
    obtain ⟨hC, hb, hml, hr, hlk, hD, hSW⟩ := id hF
    have hx := hC.1
    refine lv_aload_n hx hb dX10_expression_4 rfl (lv_at hl 0 rfl) ?_
    refine lv_bipush (v := 12) hx hb dX10_expression_5 (by decide) ?_
    obtain ⟨r1, σ2, g3, h⟩ := of_bnd h
    refine x_VI (As := [.int 12]) (rest := []) hF hl hP hS (c_X10_is hX g3) (cw_X10_238 hC rfl rfl ⟨by show 0 + 1 ≤ dd + 1 + 10; omega, by show 8 + (2 + 11) + (0) ≤ 40 * (dd + 1) + 183; omega⟩) (lm_0 X) rfl rfl rfl (Nat.le_of_ble_eq_true rfl) dX10_expression_7 ⟨Nat.zero_le _, Nat.zero_le _⟩ (fun H locs hP hS => ?_)
    refine lv_if_eq (tgt := 31) hx hb dX10_expression_10 (by decide) (fun c4 => ?_) (fun c4 => ?_)
    · have h := of_t h c4
      exact x_vretW hF hP hS h dX10_expression_31
    · have h := of_f h c4
      refine lv_aload_n hx hb dX10_expression_13 rfl (lv_at hl 0 rfl) ?_
      rcases of_bnw h with ⟨r5, σ6, g7, h⟩ | ⟨Xx, σ6, g7, rfl⟩
      rotate_left
      · exact x_VTw (As := []) (rest := []) hF hl hP hS (c_X10_take hX ht g7) (cw_X10_241 hC rfl rfl ⟨by show 7 + 1 ≤ dd + 1 + 10; omega, by show 8 + (1 + 11) + (122) ≤ 40 * (dd + 1) + 183; omega⟩) (lm_0 X) rfl rfl rfl (Nat.le_of_ble_eq_true rfl) dX10_expression_14 ⟨Nat.le_refl _, Nat.le_refl _⟩ (htab _ _ rfl)
      refine x_VV (As := []) (rest := []) hF hl hP hS (c_X10_take hX ht g7) (cw_X10_241 hC rfl rfl ⟨by show 7 + 1 ≤ dd + 1 + 10; omega, by show 8 + (1 + 11) + (122) ≤ 40 * (dd + 1) + 183; omega⟩) (lm_0 X) rfl rfl rfl (Nat.le_of_ble_eq_true rfl) dX10_expression_14 ⟨Nat.zero_le _, Nat.zero_le _⟩ (fun H locs hP hS => ?_)
      refine lv_aload_n hx hb dX10_expression_17 rfl (lv_at hl 0 rfl) ?_
      rcases of_bnw h with ⟨r8, σ9, g10, h⟩ | ⟨Xx, σ9, g10, rfl⟩
      rotate_left
      · exact x_VTw (As := []) (rest := []) hF hl hP hS (hr_X10_both _ _ g10) (cw_X10_254 hC rfl rfl ⟨by show dd + 10 + 1 ≤ dd + 1 + 10; omega, by show 8 + (1 + 11) + (40 * dd + 183) ≤ 40 * (dd + 1) + 183; omega⟩) (lm_0 X) rfl rfl rfl (Nat.le_of_ble_eq_true rfl) dX10_expression_18 ⟨Nat.le_refl _, Nat.le_refl _⟩ (htab _ _ rfl)
      refine x_VV (As := []) (rest := []) hF hl hP hS (hr_X10_both _ _ g10) (cw_X10_254 hC rfl rfl ⟨by show dd + 10 + 1 ≤ dd + 1 + 10; omega, by show 8 + (1 + 11) + (40 * dd + 183) ≤ 40 * (dd + 1) + 183; omega⟩) (lm_0 X) rfl rfl rfl (Nat.le_of_ble_eq_true rfl) dX10_expression_18 ⟨Nat.zero_le _, Nat.zero_le _⟩ (fun H locs hP hS => ?_)
      refine lv_aload_n hx hb dX10_expression_21 rfl (lv_at hl 0 rfl) ?_
      refine lv_bipush (v := 31) hx hb dX10_expression_22 (by decide) ?_
      refine lv_lconst (v := 0) hx hb dX10_expression_24 (by decide) ?_
      obtain ⟨r11, σ12, g13, h⟩ := of_bnd h
      refine x_VV (As := [.int 31, .long 0]) (rest := []) hF hl hP hS (c_X10_emit hX g13) (cw_X10_250 hC rfl rfl ⟨by show 0 + 1 ≤ dd + 1 + 10; omega, by show 8 + (4 + 11) + (0) ≤ 40 * (dd + 1) + 183; omega⟩) (lm_0 X) rfl rfl rfl (Nat.le_of_ble_eq_true rfl) dX10_expression_25 ⟨Nat.zero_le _, Nat.zero_le _⟩ (fun H locs hP hS => ?_)
      refine lv_goto (tgt := 4) hx hb dX10_expression_28 (by decide) ?_
      exact ih σ12 _ _ _ h hP hS (lv_sub hl [0] rfl)

def fb_X10_expression (r_X10_expression : Sta → Option ((Unit ⊕ (Int32 × Int32)) × Sta)) (r_X10_both : Sta → Option ((Unit ⊕ (Int32 × Int32)) × Sta)) (r_X10_relation : Sta → Option ((Unit ⊕ (Int32 × Int32)) × Sta)) (r_X10_sum : Sta → Option ((Unit ⊕ (Int32 × Int32)) × Sta)) (r_X10_product : Sta → Option ((Unit ⊕ (Int32 × Int32)) × Sta)) (r_X10_factor : Sta → Option ((Unit ⊕ (Int32 × Int32)) × Sta)) (σ : Sta) : Option ((Unit ⊕ (Int32 × Int32)) × Sta) :=
  bnw (r_X10_both σ) (fun _ σ2 =>
  f_X10_expression_4 r_X10_expression r_X10_both r_X10_relation r_X10_sum r_X10_product r_X10_factor FU σ2)
set_option maxHeartbeats 4000000 in
set_option maxRecDepth 100000 in
theorem cb_X10_expression {l : Launch} {D : va_G} {Y : CYs} {E : Nat → Nat} {X : List Dsc} (hX : Lok (LM ++ X)) {r_X10_expression : Sta → Option ((Unit ⊕ (Int32 × Int32)) × Sta)} {r_X10_both : Sta → Option ((Unit ⊕ (Int32 × Int32)) × Sta)} {r_X10_relation : Sta → Option ((Unit ⊕ (Int32 × Int32)) × Sta)} {r_X10_sum : Sta → Option ((Unit ⊕ (Int32 × Int32)) × Sta)} {r_X10_product : Sta → Option ((Unit ⊕ (Int32 × Int32)) × Sta)} {r_X10_factor : Sta → Option ((Unit ⊕ (Int32 × Int32)) × Sta)} {dd : Nat} (hr_X10_expression : ∀ (σ : Sta) (o : (Unit ⊕ (Int32 × Int32)) × Sta), r_X10_expression σ = some o → MWV l yX10_expression (Cond.code yX10_expression cX10_expression 1 none :: gW) (dd + 10) (40 * dd + 183) (LM ++ X) Y D E [.ref (E 0)] σ o) (hr_X10_both : ∀ (σ : Sta) (o : (Unit ⊕ (Int32 × Int32)) × Sta), r_X10_both σ = some o → MWV l yX10_both (Cond.code yX10_both cX10_both 1 none :: gW) (dd + 10) (40 * dd + 183) (LM ++ X) Y D E [.ref (E 0)] σ o) (hr_X10_relation : ∀ (σ : Sta) (o : (Unit ⊕ (Int32 × Int32)) × Sta), r_X10_relation σ = some o → MWV l yX10_relation (Cond.code yX10_relation cX10_relation 2 none :: gW) (dd + 10) (40 * dd + 183) (LM ++ X) Y D E [.ref (E 0)] σ o) (hr_X10_sum : ∀ (σ : Sta) (o : (Unit ⊕ (Int32 × Int32)) × Sta), r_X10_sum σ = some o → MWV l yX10_sum (Cond.code yX10_sum cX10_sum 2 none :: gW) (dd + 10) (40 * dd + 183) (LM ++ X) Y D E [.ref (E 0)] σ o) (hr_X10_product : ∀ (σ : Sta) (o : (Unit ⊕ (Int32 × Int32)) × Sta), r_X10_product σ = some o → MWV l yX10_product (Cond.code yX10_product cX10_product 2 none :: gW) (dd + 10) (40 * dd + 183) (LM ++ X) Y D E [.ref (E 0)] σ o) (hr_X10_factor : ∀ (σ : Sta) (o : (Unit ⊕ (Int32 × Int32)) × Sta), r_X10_factor σ = some o → MWV l yX10_factor (Cond.code yX10_factor cX10_factor 2 none :: gW) (dd + 10) (40 * dd + 183) (LM ++ X) Y D E [.ref (E 0)] σ o) (ht : l.stackTraces = false) {σ : Sta} {o : (Unit ⊕ (Int32 × Int32)) × Sta} (h : fb_X10_expression r_X10_expression r_X10_both r_X10_relation r_X10_sum r_X10_product r_X10_factor σ = some o) : MWV l yX10_expression (Cond.code yX10_expression cX10_expression 1 none :: gW) (dd + 1 + 10) (40 * (dd + 1) + 183) (LM ++ X) Y D E [.ref (E 0)] σ o := by
  refine Met_ofWV (by decide) (Nat.le_of_ble_eq_true rfl) (fun p e s m args below meth c hF hP htab ls hl => ?_)
  have hS : va_S (AF E (LM ++ X).length s.heap.size) s.heap s.heap [] := va_S.rf
  have hl : lv_has ls 1 [(0, .ref (E 0))] := hl
  show W p l e (rmw (dd + 1 + 10) (40 * (dd + 1) + 183) o) s m args below meth c s.heap [] 0 0 (QwV below args s (LM ++ X) Y D E o) (F0 m 0 ls [])
  unfold fb_X10_expression at h
  obtain ⟨hC, hb, hml, hr, hlk, hD, hSW⟩ := id hF
  have hx := hC.1
  refine lv_aload_n hx hb dX10_expression_0 rfl (lv_at hl 0 rfl) ?_
  rcases of_bnw h with ⟨r1, σ2, g3, h⟩ | ⟨Xx, σ2, g3, rfl⟩
  rotate_left
  · exact x_VTw (As := []) (rest := []) hF hl hP hS (hr_X10_both _ _ g3) (cw_X10_254 hC rfl rfl ⟨by show dd + 10 + 1 ≤ dd + 1 + 10; omega, by show 8 + (1 + 11) + (40 * dd + 183) ≤ 40 * (dd + 1) + 183; omega⟩) (lm_0 X) rfl rfl rfl (Nat.le_of_ble_eq_true rfl) dX10_expression_1 ⟨Nat.le_refl _, Nat.le_refl _⟩ (htab _ _ rfl)
  refine x_VV (As := []) (rest := []) hF hl hP hS (hr_X10_both _ _ g3) (cw_X10_254 hC rfl rfl ⟨by show dd + 10 + 1 ≤ dd + 1 + 10; omega, by show 8 + (1 + 11) + (40 * dd + 183) ≤ 40 * (dd + 1) + 183; omega⟩) (lm_0 X) rfl rfl rfl (Nat.le_of_ble_eq_true rfl) dX10_expression_1 ⟨Nat.zero_le _, Nat.zero_le _⟩ (fun H locs hP hS => ?_)
  exact t_X10_expression_4 hX  hr_X10_expression hr_X10_both hr_X10_relation hr_X10_sum hr_X10_product hr_X10_factor hF ht htab FU σ2 _ _ _ h hP hS (lv_sub hl [0] rfl)

def f_X10_both_4 (r_X10_expression : Sta → Option ((Unit ⊕ (Int32 × Int32)) × Sta)) (r_X10_both : Sta → Option ((Unit ⊕ (Int32 × Int32)) × Sta)) (r_X10_relation : Sta → Option ((Unit ⊕ (Int32 × Int32)) × Sta)) (r_X10_sum : Sta → Option ((Unit ⊕ (Int32 × Int32)) × Sta)) (r_X10_product : Sta → Option ((Unit ⊕ (Int32 × Int32)) × Sta)) (r_X10_factor : Sta → Option ((Unit ⊕ (Int32 × Int32)) × Sta)) : Nat → Sta → Option ((Unit ⊕ (Int32 × Int32)) × Sta)
  | 0, _ => none
  | n + 1, σ => bnd (f_X10_is 11 σ) (fun r1 σ2 =>
    if r1 = 0 then
      some (.inl (), σ2)
    else
      bnw (f_X10_take σ2) (fun _ σ6 =>
      bnw (r_X10_relation σ6) (fun _ σ9 =>
      bnd (f_X10_emit 30 0 σ9) (fun _ σ12 =>
      f_X10_both_4 r_X10_expression r_X10_both r_X10_relation r_X10_sum r_X10_product r_X10_factor n σ12))))
set_option maxHeartbeats 4000000 in
set_option maxRecDepth 100000 in
theorem t_X10_both_4 {l : Launch} {D : va_G} {Y : CYs} {E : Nat → Nat} {X : List Dsc} (hX : Lok (LM ++ X)) {p : Program} {e : Env} {s : State} {m : MethodId} {args : Array Value} {below : List Frame} {meth : Method} {c : Code} {r_X10_expression : Sta → Option ((Unit ⊕ (Int32 × Int32)) × Sta)} {r_X10_both : Sta → Option ((Unit ⊕ (Int32 × Int32)) × Sta)} {r_X10_relation : Sta → Option ((Unit ⊕ (Int32 × Int32)) × Sta)} {r_X10_sum : Sta → Option ((Unit ⊕ (Int32 × Int32)) × Sta)} {r_X10_product : Sta → Option ((Unit ⊕ (Int32 × Int32)) × Sta)} {r_X10_factor : Sta → Option ((Unit ⊕ (Int32 × Int32)) × Sta)} {dd : Nat} (hr_X10_expression : ∀ (σ : Sta) (o : (Unit ⊕ (Int32 × Int32)) × Sta), r_X10_expression σ = some o → MWV l yX10_expression (Cond.code yX10_expression cX10_expression 1 none :: gW) (dd + 10) (40 * dd + 183) (LM ++ X) Y D E [.ref (E 0)] σ o) (hr_X10_both : ∀ (σ : Sta) (o : (Unit ⊕ (Int32 × Int32)) × Sta), r_X10_both σ = some o → MWV l yX10_both (Cond.code yX10_both cX10_both 1 none :: gW) (dd + 10) (40 * dd + 183) (LM ++ X) Y D E [.ref (E 0)] σ o) (hr_X10_relation : ∀ (σ : Sta) (o : (Unit ⊕ (Int32 × Int32)) × Sta), r_X10_relation σ = some o → MWV l yX10_relation (Cond.code yX10_relation cX10_relation 2 none :: gW) (dd + 10) (40 * dd + 183) (LM ++ X) Y D E [.ref (E 0)] σ o) (hr_X10_sum : ∀ (σ : Sta) (o : (Unit ⊕ (Int32 × Int32)) × Sta), r_X10_sum σ = some o → MWV l yX10_sum (Cond.code yX10_sum cX10_sum 2 none :: gW) (dd + 10) (40 * dd + 183) (LM ++ X) Y D E [.ref (E 0)] σ o) (hr_X10_product : ∀ (σ : Sta) (o : (Unit ⊕ (Int32 × Int32)) × Sta), r_X10_product σ = some o → MWV l yX10_product (Cond.code yX10_product cX10_product 2 none :: gW) (dd + 10) (40 * dd + 183) (LM ++ X) Y D E [.ref (E 0)] σ o) (hr_X10_factor : ∀ (σ : Sta) (o : (Unit ⊕ (Int32 × Int32)) × Sta), r_X10_factor σ = some o → MWV l yX10_factor (Cond.code yX10_factor cX10_factor 2 none :: gW) (dd + 10) (40 * dd + 183) (LM ++ X) Y D E [.ref (E 0)] σ o) (hF : Fr p s m args meth c RX10 cX10_both 1 none D Y E (LM ++ X)) {o : (Unit ⊕ (Int32 × Int32)) × Sta} (ht : l.stackTraces = false) (htab : ∀ X u, o = (.inr X, u) → ∀ x ∈ c.exceptionTable.toList, False) : ∀ (n : Nat) (σ : Sta) (H : Heap) (locs : List Loc) (ls : Array Slot), f_X10_both_4 r_X10_expression r_X10_both r_X10_relation r_X10_sum r_X10_product r_X10_factor n σ = some o → va_P D vwCl (wd Y E σ 0 (LM ++ X)) H → va_S (AF E (LM ++ X).length s.heap.size) s.heap H locs → lv_has ls 1 [(0, .ref (E 0))] → W p l e (rmw (dd + 1 + 10) (40 * (dd + 1) + 183) o) s m args below meth c H locs 0 0 (QwV below args s (LM ++ X) Y D E o) (F0 m 4 ls []) := by
  intro n
  induction n with
  | zero =>
    intro σ H locs ls h hP hS hl
    exact nomatch (show (none : Option ((Unit ⊕ (Int32 × Int32)) × Sta)) = some o from h)
  | succ n ih =>
    intro σ H locs ls h hP hS hl
    rw [f_X10_both_4] at h
    obtain ⟨hC, hb, hml, hr, hlk, hD, hSW⟩ := id hF
    have hx := hC.1
    refine lv_aload_n hx hb dX10_both_4 rfl (lv_at hl 0 rfl) ?_
    refine lv_bipush (v := 11) hx hb dX10_both_5 (by decide) ?_
    obtain ⟨r1, σ2, g3, h⟩ := of_bnd h
    refine x_VI (As := [.int 11]) (rest := []) hF hl hP hS (c_X10_is hX g3) (cw_X10_238 hC rfl rfl ⟨by show 0 + 1 ≤ dd + 1 + 10; omega, by show 8 + (2 + 11) + (0) ≤ 40 * (dd + 1) + 183; omega⟩) (lm_0 X) rfl rfl rfl (Nat.le_of_ble_eq_true rfl) dX10_both_7 ⟨Nat.zero_le _, Nat.zero_le _⟩ (fun H locs hP hS => ?_)
    refine lv_if_eq (tgt := 31) hx hb dX10_both_10 (by decide) (fun c4 => ?_) (fun c4 => ?_)
    · have h := of_t h c4
      exact x_vretW hF hP hS h dX10_both_31
    · have h := of_f h c4
      refine lv_aload_n hx hb dX10_both_13 rfl (lv_at hl 0 rfl) ?_
      rcases of_bnw h with ⟨r5, σ6, g7, h⟩ | ⟨Xx, σ6, g7, rfl⟩
      rotate_left
      · exact x_VTw (As := []) (rest := []) hF hl hP hS (c_X10_take hX ht g7) (cw_X10_241 hC rfl rfl ⟨by show 7 + 1 ≤ dd + 1 + 10; omega, by show 8 + (1 + 11) + (122) ≤ 40 * (dd + 1) + 183; omega⟩) (lm_0 X) rfl rfl rfl (Nat.le_of_ble_eq_true rfl) dX10_both_14 ⟨Nat.le_refl _, Nat.le_refl _⟩ (htab _ _ rfl)
      refine x_VV (As := []) (rest := []) hF hl hP hS (c_X10_take hX ht g7) (cw_X10_241 hC rfl rfl ⟨by show 7 + 1 ≤ dd + 1 + 10; omega, by show 8 + (1 + 11) + (122) ≤ 40 * (dd + 1) + 183; omega⟩) (lm_0 X) rfl rfl rfl (Nat.le_of_ble_eq_true rfl) dX10_both_14 ⟨Nat.zero_le _, Nat.zero_le _⟩ (fun H locs hP hS => ?_)
      refine lv_aload_n hx hb dX10_both_17 rfl (lv_at hl 0 rfl) ?_
      rcases of_bnw h with ⟨r8, σ9, g10, h⟩ | ⟨Xx, σ9, g10, rfl⟩
      rotate_left
      · exact x_VTw (As := []) (rest := []) hF hl hP hS (hr_X10_relation _ _ g10) (cw_X10_257 hC rfl rfl ⟨by show dd + 10 + 1 ≤ dd + 1 + 10; omega, by show 8 + (2 + 11) + (40 * dd + 183) ≤ 40 * (dd + 1) + 183; omega⟩) (lm_0 X) rfl rfl rfl (Nat.le_of_ble_eq_true rfl) dX10_both_18 ⟨Nat.le_refl _, Nat.le_refl _⟩ (htab _ _ rfl)
      refine x_VV (As := []) (rest := []) hF hl hP hS (hr_X10_relation _ _ g10) (cw_X10_257 hC rfl rfl ⟨by show dd + 10 + 1 ≤ dd + 1 + 10; omega, by show 8 + (2 + 11) + (40 * dd + 183) ≤ 40 * (dd + 1) + 183; omega⟩) (lm_0 X) rfl rfl rfl (Nat.le_of_ble_eq_true rfl) dX10_both_18 ⟨Nat.zero_le _, Nat.zero_le _⟩ (fun H locs hP hS => ?_)
      refine lv_aload_n hx hb dX10_both_21 rfl (lv_at hl 0 rfl) ?_
      refine lv_bipush (v := 30) hx hb dX10_both_22 (by decide) ?_
      refine lv_lconst (v := 0) hx hb dX10_both_24 (by decide) ?_
      obtain ⟨r11, σ12, g13, h⟩ := of_bnd h
      refine x_VV (As := [.int 30, .long 0]) (rest := []) hF hl hP hS (c_X10_emit hX g13) (cw_X10_250 hC rfl rfl ⟨by show 0 + 1 ≤ dd + 1 + 10; omega, by show 8 + (4 + 11) + (0) ≤ 40 * (dd + 1) + 183; omega⟩) (lm_0 X) rfl rfl rfl (Nat.le_of_ble_eq_true rfl) dX10_both_25 ⟨Nat.zero_le _, Nat.zero_le _⟩ (fun H locs hP hS => ?_)
      refine lv_goto (tgt := 4) hx hb dX10_both_28 (by decide) ?_
      exact ih σ12 _ _ _ h hP hS (lv_sub hl [0] rfl)

def fb_X10_both (r_X10_expression : Sta → Option ((Unit ⊕ (Int32 × Int32)) × Sta)) (r_X10_both : Sta → Option ((Unit ⊕ (Int32 × Int32)) × Sta)) (r_X10_relation : Sta → Option ((Unit ⊕ (Int32 × Int32)) × Sta)) (r_X10_sum : Sta → Option ((Unit ⊕ (Int32 × Int32)) × Sta)) (r_X10_product : Sta → Option ((Unit ⊕ (Int32 × Int32)) × Sta)) (r_X10_factor : Sta → Option ((Unit ⊕ (Int32 × Int32)) × Sta)) (σ : Sta) : Option ((Unit ⊕ (Int32 × Int32)) × Sta) :=
  bnw (r_X10_relation σ) (fun _ σ2 =>
  f_X10_both_4 r_X10_expression r_X10_both r_X10_relation r_X10_sum r_X10_product r_X10_factor FU σ2)
set_option maxHeartbeats 4000000 in
set_option maxRecDepth 100000 in
theorem cb_X10_both {l : Launch} {D : va_G} {Y : CYs} {E : Nat → Nat} {X : List Dsc} (hX : Lok (LM ++ X)) {r_X10_expression : Sta → Option ((Unit ⊕ (Int32 × Int32)) × Sta)} {r_X10_both : Sta → Option ((Unit ⊕ (Int32 × Int32)) × Sta)} {r_X10_relation : Sta → Option ((Unit ⊕ (Int32 × Int32)) × Sta)} {r_X10_sum : Sta → Option ((Unit ⊕ (Int32 × Int32)) × Sta)} {r_X10_product : Sta → Option ((Unit ⊕ (Int32 × Int32)) × Sta)} {r_X10_factor : Sta → Option ((Unit ⊕ (Int32 × Int32)) × Sta)} {dd : Nat} (hr_X10_expression : ∀ (σ : Sta) (o : (Unit ⊕ (Int32 × Int32)) × Sta), r_X10_expression σ = some o → MWV l yX10_expression (Cond.code yX10_expression cX10_expression 1 none :: gW) (dd + 10) (40 * dd + 183) (LM ++ X) Y D E [.ref (E 0)] σ o) (hr_X10_both : ∀ (σ : Sta) (o : (Unit ⊕ (Int32 × Int32)) × Sta), r_X10_both σ = some o → MWV l yX10_both (Cond.code yX10_both cX10_both 1 none :: gW) (dd + 10) (40 * dd + 183) (LM ++ X) Y D E [.ref (E 0)] σ o) (hr_X10_relation : ∀ (σ : Sta) (o : (Unit ⊕ (Int32 × Int32)) × Sta), r_X10_relation σ = some o → MWV l yX10_relation (Cond.code yX10_relation cX10_relation 2 none :: gW) (dd + 10) (40 * dd + 183) (LM ++ X) Y D E [.ref (E 0)] σ o) (hr_X10_sum : ∀ (σ : Sta) (o : (Unit ⊕ (Int32 × Int32)) × Sta), r_X10_sum σ = some o → MWV l yX10_sum (Cond.code yX10_sum cX10_sum 2 none :: gW) (dd + 10) (40 * dd + 183) (LM ++ X) Y D E [.ref (E 0)] σ o) (hr_X10_product : ∀ (σ : Sta) (o : (Unit ⊕ (Int32 × Int32)) × Sta), r_X10_product σ = some o → MWV l yX10_product (Cond.code yX10_product cX10_product 2 none :: gW) (dd + 10) (40 * dd + 183) (LM ++ X) Y D E [.ref (E 0)] σ o) (hr_X10_factor : ∀ (σ : Sta) (o : (Unit ⊕ (Int32 × Int32)) × Sta), r_X10_factor σ = some o → MWV l yX10_factor (Cond.code yX10_factor cX10_factor 2 none :: gW) (dd + 10) (40 * dd + 183) (LM ++ X) Y D E [.ref (E 0)] σ o) (ht : l.stackTraces = false) {σ : Sta} {o : (Unit ⊕ (Int32 × Int32)) × Sta} (h : fb_X10_both r_X10_expression r_X10_both r_X10_relation r_X10_sum r_X10_product r_X10_factor σ = some o) : MWV l yX10_both (Cond.code yX10_both cX10_both 1 none :: gW) (dd + 1 + 10) (40 * (dd + 1) + 183) (LM ++ X) Y D E [.ref (E 0)] σ o := by
  refine Met_ofWV (by decide) (Nat.le_of_ble_eq_true rfl) (fun p e s m args below meth c hF hP htab ls hl => ?_)
  have hS : va_S (AF E (LM ++ X).length s.heap.size) s.heap s.heap [] := va_S.rf
  have hl : lv_has ls 1 [(0, .ref (E 0))] := hl
  show W p l e (rmw (dd + 1 + 10) (40 * (dd + 1) + 183) o) s m args below meth c s.heap [] 0 0 (QwV below args s (LM ++ X) Y D E o) (F0 m 0 ls [])
  unfold fb_X10_both at h
  obtain ⟨hC, hb, hml, hr, hlk, hD, hSW⟩ := id hF
  have hx := hC.1
  refine lv_aload_n hx hb dX10_both_0 rfl (lv_at hl 0 rfl) ?_
  rcases of_bnw h with ⟨r1, σ2, g3, h⟩ | ⟨Xx, σ2, g3, rfl⟩
  rotate_left
  · exact x_VTw (As := []) (rest := []) hF hl hP hS (hr_X10_relation _ _ g3) (cw_X10_257 hC rfl rfl ⟨by show dd + 10 + 1 ≤ dd + 1 + 10; omega, by show 8 + (2 + 11) + (40 * dd + 183) ≤ 40 * (dd + 1) + 183; omega⟩) (lm_0 X) rfl rfl rfl (Nat.le_of_ble_eq_true rfl) dX10_both_1 ⟨Nat.le_refl _, Nat.le_refl _⟩ (htab _ _ rfl)
  refine x_VV (As := []) (rest := []) hF hl hP hS (hr_X10_relation _ _ g3) (cw_X10_257 hC rfl rfl ⟨by show dd + 10 + 1 ≤ dd + 1 + 10; omega, by show 8 + (2 + 11) + (40 * dd + 183) ≤ 40 * (dd + 1) + 183; omega⟩) (lm_0 X) rfl rfl rfl (Nat.le_of_ble_eq_true rfl) dX10_both_1 ⟨Nat.zero_le _, Nat.zero_le _⟩ (fun H locs hP hS => ?_)
  exact t_X10_both_4 hX  hr_X10_expression hr_X10_both hr_X10_relation hr_X10_sum hr_X10_product hr_X10_factor hF ht htab FU σ2 _ _ _ h hP hS (lv_sub hl [0] rfl)

def f_X10_relation_83 (r_X10_expression : Sta → Option ((Unit ⊕ (Int32 × Int32)) × Sta)) (r_X10_both : Sta → Option ((Unit ⊕ (Int32 × Int32)) × Sta)) (r_X10_relation : Sta → Option ((Unit ⊕ (Int32 × Int32)) × Sta)) (r_X10_sum : Sta → Option ((Unit ⊕ (Int32 × Int32)) × Sta)) (r_X10_product : Sta → Option ((Unit ⊕ (Int32 × Int32)) × Sta)) (r_X10_factor : Sta → Option ((Unit ⊕ (Int32 × Int32)) × Sta)) (s0 : Int32) (σ : Sta) : Option ((Unit ⊕ (Int32 × Int32)) × Sta) :=
  if s0 = -1 then
    some (.inl (), σ)
  else
    bnw (f_X10_take σ) (fun _ σ3 =>
    bnw (r_X10_sum σ3) (fun _ σ6 =>
    bnd (f_X10_emit (20 + s0) 0 σ6) (fun _ σ9 =>
    some (.inl (), σ9))))
set_option maxHeartbeats 4000000 in
set_option maxRecDepth 100000 in
theorem t_X10_relation_83 {l : Launch} {D : va_G} {Y : CYs} {E : Nat → Nat} {X : List Dsc} (hX : Lok (LM ++ X)) {p : Program} {e : Env} {s : State} {m : MethodId} {args : Array Value} {below : List Frame} {meth : Method} {c : Code} {r_X10_expression : Sta → Option ((Unit ⊕ (Int32 × Int32)) × Sta)} {r_X10_both : Sta → Option ((Unit ⊕ (Int32 × Int32)) × Sta)} {r_X10_relation : Sta → Option ((Unit ⊕ (Int32 × Int32)) × Sta)} {r_X10_sum : Sta → Option ((Unit ⊕ (Int32 × Int32)) × Sta)} {r_X10_product : Sta → Option ((Unit ⊕ (Int32 × Int32)) × Sta)} {r_X10_factor : Sta → Option ((Unit ⊕ (Int32 × Int32)) × Sta)} {dd : Nat} (hr_X10_expression : ∀ (σ : Sta) (o : (Unit ⊕ (Int32 × Int32)) × Sta), r_X10_expression σ = some o → MWV l yX10_expression (Cond.code yX10_expression cX10_expression 1 none :: gW) (dd + 10) (40 * dd + 183) (LM ++ X) Y D E [.ref (E 0)] σ o) (hr_X10_both : ∀ (σ : Sta) (o : (Unit ⊕ (Int32 × Int32)) × Sta), r_X10_both σ = some o → MWV l yX10_both (Cond.code yX10_both cX10_both 1 none :: gW) (dd + 10) (40 * dd + 183) (LM ++ X) Y D E [.ref (E 0)] σ o) (hr_X10_relation : ∀ (σ : Sta) (o : (Unit ⊕ (Int32 × Int32)) × Sta), r_X10_relation σ = some o → MWV l yX10_relation (Cond.code yX10_relation cX10_relation 2 none :: gW) (dd + 10) (40 * dd + 183) (LM ++ X) Y D E [.ref (E 0)] σ o) (hr_X10_sum : ∀ (σ : Sta) (o : (Unit ⊕ (Int32 × Int32)) × Sta), r_X10_sum σ = some o → MWV l yX10_sum (Cond.code yX10_sum cX10_sum 2 none :: gW) (dd + 10) (40 * dd + 183) (LM ++ X) Y D E [.ref (E 0)] σ o) (hr_X10_product : ∀ (σ : Sta) (o : (Unit ⊕ (Int32 × Int32)) × Sta), r_X10_product σ = some o → MWV l yX10_product (Cond.code yX10_product cX10_product 2 none :: gW) (dd + 10) (40 * dd + 183) (LM ++ X) Y D E [.ref (E 0)] σ o) (hr_X10_factor : ∀ (σ : Sta) (o : (Unit ⊕ (Int32 × Int32)) × Sta), r_X10_factor σ = some o → MWV l yX10_factor (Cond.code yX10_factor cX10_factor 2 none :: gW) (dd + 10) (40 * dd + 183) (LM ++ X) Y D E [.ref (E 0)] σ o) (hF : Fr p s m args meth c RX10 cX10_relation 2 none D Y E (LM ++ X)) {o : (Unit ⊕ (Int32 × Int32)) × Sta} (ht : l.stackTraces = false) (htab : ∀ X u, o = (.inr X, u) → ∀ x ∈ c.exceptionTable.toList, False) : ∀ (s0 : Int32) (σ : Sta) (H : Heap) (locs : List Loc) (ls : Array Slot), f_X10_relation_83 r_X10_expression r_X10_both r_X10_relation r_X10_sum r_X10_product r_X10_factor s0 σ = some o → va_P D vwCl (wd Y E σ 0 (LM ++ X)) H → va_S (AF E (LM ++ X).length s.heap.size) s.heap H locs → lv_has ls 2 [(0, .ref (E 0))] → W p l e (rmw (dd + 1 + 10) (40 * (dd + 1) + 183) o) s m args below meth c H locs 0 0 (QwV below args s (LM ++ X) Y D E o) (F0 m 83 ls [.int s0]) := by
  intro s0 σ H locs ls h hP hS hl
  unfold f_X10_relation_83 at h
  obtain ⟨hC, hb, hml, hr, hlk, hD, hSW⟩ := id hF
  have hx := hC.1
  refine lv_istore_n (lv' := [(1, .int s0), (0, .ref (E 0))]) hx hb dX10_relation_83 rfl hl (by decide) rfl (fun ls hl => ?_)
  refine lv_iload_n hx hb dX10_relation_84 rfl (lv_at hl 0 rfl) ?_
  refine lv_iconst (v := -1) hx hb dX10_relation_85 (by decide) ?_
  refine lv_icmp_ne (tgt := 90) hx hb dX10_relation_86 (by decide) (fun c1 => ?_) (fun c1 => ?_)
  · have h := of_f h c1
    refine lv_aload_n hx hb dX10_relation_90 rfl (lv_at hl 1 rfl) ?_
    rcases of_bnw h with ⟨r2, σ3, g4, h⟩ | ⟨Xx, σ3, g4, rfl⟩
    rotate_left
    · exact x_VTw (As := []) (rest := []) hF hl hP hS (c_X10_take hX ht g4) (cw_X10_241 hC rfl rfl ⟨by show 7 + 1 ≤ dd + 1 + 10; omega, by show 8 + (1 + 11) + (122) ≤ 40 * (dd + 1) + 183; omega⟩) (lm_0 X) rfl rfl rfl (Nat.le_of_ble_eq_true rfl) dX10_relation_91 ⟨Nat.le_refl _, Nat.le_refl _⟩ (htab _ _ rfl)
    refine x_VV (As := []) (rest := []) hF hl hP hS (c_X10_take hX ht g4) (cw_X10_241 hC rfl rfl ⟨by show 7 + 1 ≤ dd + 1 + 10; omega, by show 8 + (1 + 11) + (122) ≤ 40 * (dd + 1) + 183; omega⟩) (lm_0 X) rfl rfl rfl (Nat.le_of_ble_eq_true rfl) dX10_relation_91 ⟨Nat.zero_le _, Nat.zero_le _⟩ (fun H locs hP hS => ?_)
    refine lv_aload_n hx hb dX10_relation_94 rfl (lv_at hl 1 rfl) ?_
    rcases of_bnw h with ⟨r5, σ6, g7, h⟩ | ⟨Xx, σ6, g7, rfl⟩
    rotate_left
    · exact x_VTw (As := []) (rest := []) hF hl hP hS (hr_X10_sum _ _ g7) (cw_X10_260 hC rfl rfl ⟨by show dd + 10 + 1 ≤ dd + 1 + 10; omega, by show 8 + (2 + 11) + (40 * dd + 183) ≤ 40 * (dd + 1) + 183; omega⟩) (lm_0 X) rfl rfl rfl (Nat.le_of_ble_eq_true rfl) dX10_relation_95 ⟨Nat.le_refl _, Nat.le_refl _⟩ (htab _ _ rfl)
    refine x_VV (As := []) (rest := []) hF hl hP hS (hr_X10_sum _ _ g7) (cw_X10_260 hC rfl rfl ⟨by show dd + 10 + 1 ≤ dd + 1 + 10; omega, by show 8 + (2 + 11) + (40 * dd + 183) ≤ 40 * (dd + 1) + 183; omega⟩) (lm_0 X) rfl rfl rfl (Nat.le_of_ble_eq_true rfl) dX10_relation_95 ⟨Nat.zero_le _, Nat.zero_le _⟩ (fun H locs hP hS => ?_)
    refine lv_aload_n hx hb dX10_relation_98 rfl (lv_at hl 1 rfl) ?_
    refine lv_bipush (v := 20) hx hb dX10_relation_99 (by decide) ?_
    refine lv_iload_n hx hb dX10_relation_101 rfl (lv_at hl 0 rfl) ?_
    refine lv_iadd hx hb dX10_relation_102 ?_
    refine lv_lconst (v := 0) hx hb dX10_relation_103 (by decide) ?_
    obtain ⟨r8, σ9, g10, h⟩ := of_bnd h
    refine x_VV (As := [.int (20 + s0), .long 0]) (rest := []) hF hl hP hS (c_X10_emit hX g10) (cw_X10_250 hC rfl rfl ⟨by show 0 + 1 ≤ dd + 1 + 10; omega, by show 8 + (4 + 11) + (0) ≤ 40 * (dd + 1) + 183; omega⟩) (lm_0 X) rfl rfl rfl (Nat.le_of_ble_eq_true rfl) dX10_relation_104 ⟨Nat.zero_le _, Nat.zero_le _⟩ (fun H locs hP hS => ?_)
    exact x_vretW hF hP hS h dX10_relation_107
  · have h := of_t h c1
    exact x_vretW hF hP hS h dX10_relation_89

def fb_X10_relation (r_X10_expression : Sta → Option ((Unit ⊕ (Int32 × Int32)) × Sta)) (r_X10_both : Sta → Option ((Unit ⊕ (Int32 × Int32)) × Sta)) (r_X10_relation : Sta → Option ((Unit ⊕ (Int32 × Int32)) × Sta)) (r_X10_sum : Sta → Option ((Unit ⊕ (Int32 × Int32)) × Sta)) (r_X10_product : Sta → Option ((Unit ⊕ (Int32 × Int32)) × Sta)) (r_X10_factor : Sta → Option ((Unit ⊕ (Int32 × Int32)) × Sta)) (σ : Sta) : Option ((Unit ⊕ (Int32 × Int32)) × Sta) :=
  bnw (r_X10_sum σ) (fun _ σ2 =>
  bnd (f_X10_is 105 σ2) (fun r4 σ5 =>
  if r4 = 0 then
    bnd (f_X10_is 115 σ5) (fun r8 σ9 =>
    if r8 = 0 then
      bnd (f_X10_is 111 σ9) (fun r12 σ13 =>
      if r12 = 0 then
        bnd (f_X10_is 112 σ13) (fun r16 σ17 =>
        if r16 = 0 then
          bnd (f_X10_is 113 σ17) (fun r20 σ21 =>
          if r20 = 0 then
            bnd (f_X10_is 114 σ21) (fun r24 σ25 =>
            if r24 = 0 then
              f_X10_relation_83 r_X10_expression r_X10_both r_X10_relation r_X10_sum r_X10_product r_X10_factor (-1) σ25
            else
              f_X10_relation_83 r_X10_expression r_X10_both r_X10_relation r_X10_sum r_X10_product r_X10_factor 5 σ25)
          else
            f_X10_relation_83 r_X10_expression r_X10_both r_X10_relation r_X10_sum r_X10_product r_X10_factor 4 σ21)
        else
          f_X10_relation_83 r_X10_expression r_X10_both r_X10_relation r_X10_sum r_X10_product r_X10_factor 3 σ17)
      else
        f_X10_relation_83 r_X10_expression r_X10_both r_X10_relation r_X10_sum r_X10_product r_X10_factor 2 σ13)
    else
      f_X10_relation_83 r_X10_expression r_X10_both r_X10_relation r_X10_sum r_X10_product r_X10_factor 1 σ9)
  else
    f_X10_relation_83 r_X10_expression r_X10_both r_X10_relation r_X10_sum r_X10_product r_X10_factor 0 σ5))
set_option maxHeartbeats 4000000 in
set_option maxRecDepth 100000 in
theorem cb_X10_relation {l : Launch} {D : va_G} {Y : CYs} {E : Nat → Nat} {X : List Dsc} (hX : Lok (LM ++ X)) {r_X10_expression : Sta → Option ((Unit ⊕ (Int32 × Int32)) × Sta)} {r_X10_both : Sta → Option ((Unit ⊕ (Int32 × Int32)) × Sta)} {r_X10_relation : Sta → Option ((Unit ⊕ (Int32 × Int32)) × Sta)} {r_X10_sum : Sta → Option ((Unit ⊕ (Int32 × Int32)) × Sta)} {r_X10_product : Sta → Option ((Unit ⊕ (Int32 × Int32)) × Sta)} {r_X10_factor : Sta → Option ((Unit ⊕ (Int32 × Int32)) × Sta)} {dd : Nat} (hr_X10_expression : ∀ (σ : Sta) (o : (Unit ⊕ (Int32 × Int32)) × Sta), r_X10_expression σ = some o → MWV l yX10_expression (Cond.code yX10_expression cX10_expression 1 none :: gW) (dd + 10) (40 * dd + 183) (LM ++ X) Y D E [.ref (E 0)] σ o) (hr_X10_both : ∀ (σ : Sta) (o : (Unit ⊕ (Int32 × Int32)) × Sta), r_X10_both σ = some o → MWV l yX10_both (Cond.code yX10_both cX10_both 1 none :: gW) (dd + 10) (40 * dd + 183) (LM ++ X) Y D E [.ref (E 0)] σ o) (hr_X10_relation : ∀ (σ : Sta) (o : (Unit ⊕ (Int32 × Int32)) × Sta), r_X10_relation σ = some o → MWV l yX10_relation (Cond.code yX10_relation cX10_relation 2 none :: gW) (dd + 10) (40 * dd + 183) (LM ++ X) Y D E [.ref (E 0)] σ o) (hr_X10_sum : ∀ (σ : Sta) (o : (Unit ⊕ (Int32 × Int32)) × Sta), r_X10_sum σ = some o → MWV l yX10_sum (Cond.code yX10_sum cX10_sum 2 none :: gW) (dd + 10) (40 * dd + 183) (LM ++ X) Y D E [.ref (E 0)] σ o) (hr_X10_product : ∀ (σ : Sta) (o : (Unit ⊕ (Int32 × Int32)) × Sta), r_X10_product σ = some o → MWV l yX10_product (Cond.code yX10_product cX10_product 2 none :: gW) (dd + 10) (40 * dd + 183) (LM ++ X) Y D E [.ref (E 0)] σ o) (hr_X10_factor : ∀ (σ : Sta) (o : (Unit ⊕ (Int32 × Int32)) × Sta), r_X10_factor σ = some o → MWV l yX10_factor (Cond.code yX10_factor cX10_factor 2 none :: gW) (dd + 10) (40 * dd + 183) (LM ++ X) Y D E [.ref (E 0)] σ o) (ht : l.stackTraces = false) {σ : Sta} {o : (Unit ⊕ (Int32 × Int32)) × Sta} (h : fb_X10_relation r_X10_expression r_X10_both r_X10_relation r_X10_sum r_X10_product r_X10_factor σ = some o) : MWV l yX10_relation (Cond.code yX10_relation cX10_relation 2 none :: gW) (dd + 1 + 10) (40 * (dd + 1) + 183) (LM ++ X) Y D E [.ref (E 0)] σ o := by
  refine Met_ofWV (by decide) (Nat.le_of_ble_eq_true rfl) (fun p e s m args below meth c hF hP htab ls hl => ?_)
  have hS : va_S (AF E (LM ++ X).length s.heap.size) s.heap s.heap [] := va_S.rf
  have hl : lv_has ls 2 [(0, .ref (E 0))] := hl
  show W p l e (rmw (dd + 1 + 10) (40 * (dd + 1) + 183) o) s m args below meth c s.heap [] 0 0 (QwV below args s (LM ++ X) Y D E o) (F0 m 0 ls [])
  unfold fb_X10_relation at h
  obtain ⟨hC, hb, hml, hr, hlk, hD, hSW⟩ := id hF
  have hx := hC.1
  refine lv_aload_n hx hb dX10_relation_0 rfl (lv_at hl 0 rfl) ?_
  rcases of_bnw h with ⟨r1, σ2, g3, h⟩ | ⟨Xx, σ2, g3, rfl⟩
  rotate_left
  · exact x_VTw (As := []) (rest := []) hF hl hP hS (hr_X10_sum _ _ g3) (cw_X10_260 hC rfl rfl ⟨by show dd + 10 + 1 ≤ dd + 1 + 10; omega, by show 8 + (2 + 11) + (40 * dd + 183) ≤ 40 * (dd + 1) + 183; omega⟩) (lm_0 X) rfl rfl rfl (Nat.le_of_ble_eq_true rfl) dX10_relation_1 ⟨Nat.le_refl _, Nat.le_refl _⟩ (htab _ _ rfl)
  refine x_VV (As := []) (rest := []) hF hl hP hS (hr_X10_sum _ _ g3) (cw_X10_260 hC rfl rfl ⟨by show dd + 10 + 1 ≤ dd + 1 + 10; omega, by show 8 + (2 + 11) + (40 * dd + 183) ≤ 40 * (dd + 1) + 183; omega⟩) (lm_0 X) rfl rfl rfl (Nat.le_of_ble_eq_true rfl) dX10_relation_1 ⟨Nat.zero_le _, Nat.zero_le _⟩ (fun H locs hP hS => ?_)
  refine lv_aload_n hx hb dX10_relation_4 rfl (lv_at hl 0 rfl) ?_
  refine lv_bipush (v := 105) hx hb dX10_relation_5 (by decide) ?_
  obtain ⟨r4, σ5, g6, h⟩ := of_bnd h
  refine x_VI (As := [.int 105]) (rest := []) hF hl hP hS (c_X10_is hX g6) (cw_X10_238 hC rfl rfl ⟨by show 0 + 1 ≤ dd + 1 + 10; omega, by show 8 + (2 + 11) + (0) ≤ 40 * (dd + 1) + 183; omega⟩) (lm_0 X) rfl rfl rfl (Nat.le_of_ble_eq_true rfl) dX10_relation_7 ⟨Nat.zero_le _, Nat.zero_le _⟩ (fun H locs hP hS => ?_)
  refine lv_if_eq (tgt := 17) hx hb dX10_relation_10 (by decide) (fun c7 => ?_) (fun c7 => ?_)
  · have h := of_t h c7
    refine lv_aload_n hx hb dX10_relation_17 rfl (lv_at hl 0 rfl) ?_
    refine lv_bipush (v := 115) hx hb dX10_relation_18 (by decide) ?_
    obtain ⟨r8, σ9, g10, h⟩ := of_bnd h
    refine x_VI (As := [.int 115]) (rest := []) hF hl hP hS (c_X10_is hX g10) (cw_X10_238 hC rfl rfl ⟨by show 0 + 1 ≤ dd + 1 + 10; omega, by show 8 + (2 + 11) + (0) ≤ 40 * (dd + 1) + 183; omega⟩) (lm_0 X) rfl rfl rfl (Nat.le_of_ble_eq_true rfl) dX10_relation_20 ⟨Nat.zero_le _, Nat.zero_le _⟩ (fun H locs hP hS => ?_)
    refine lv_if_eq (tgt := 30) hx hb dX10_relation_23 (by decide) (fun c11 => ?_) (fun c11 => ?_)
    · have h := of_t h c11
      refine lv_aload_n hx hb dX10_relation_30 rfl (lv_at hl 0 rfl) ?_
      refine lv_bipush (v := 111) hx hb dX10_relation_31 (by decide) ?_
      obtain ⟨r12, σ13, g14, h⟩ := of_bnd h
      refine x_VI (As := [.int 111]) (rest := []) hF hl hP hS (c_X10_is hX g14) (cw_X10_238 hC rfl rfl ⟨by show 0 + 1 ≤ dd + 1 + 10; omega, by show 8 + (2 + 11) + (0) ≤ 40 * (dd + 1) + 183; omega⟩) (lm_0 X) rfl rfl rfl (Nat.le_of_ble_eq_true rfl) dX10_relation_33 ⟨Nat.zero_le _, Nat.zero_le _⟩ (fun H locs hP hS => ?_)
      refine lv_if_eq (tgt := 43) hx hb dX10_relation_36 (by decide) (fun c15 => ?_) (fun c15 => ?_)
      · have h := of_t h c15
        refine lv_aload_n hx hb dX10_relation_43 rfl (lv_at hl 0 rfl) ?_
        refine lv_bipush (v := 112) hx hb dX10_relation_44 (by decide) ?_
        obtain ⟨r16, σ17, g18, h⟩ := of_bnd h
        refine x_VI (As := [.int 112]) (rest := []) hF hl hP hS (c_X10_is hX g18) (cw_X10_238 hC rfl rfl ⟨by show 0 + 1 ≤ dd + 1 + 10; omega, by show 8 + (2 + 11) + (0) ≤ 40 * (dd + 1) + 183; omega⟩) (lm_0 X) rfl rfl rfl (Nat.le_of_ble_eq_true rfl) dX10_relation_46 ⟨Nat.zero_le _, Nat.zero_le _⟩ (fun H locs hP hS => ?_)
        refine lv_if_eq (tgt := 56) hx hb dX10_relation_49 (by decide) (fun c19 => ?_) (fun c19 => ?_)
        · have h := of_t h c19
          refine lv_aload_n hx hb dX10_relation_56 rfl (lv_at hl 0 rfl) ?_
          refine lv_bipush (v := 113) hx hb dX10_relation_57 (by decide) ?_
          obtain ⟨r20, σ21, g22, h⟩ := of_bnd h
          refine x_VI (As := [.int 113]) (rest := []) hF hl hP hS (c_X10_is hX g22) (cw_X10_238 hC rfl rfl ⟨by show 0 + 1 ≤ dd + 1 + 10; omega, by show 8 + (2 + 11) + (0) ≤ 40 * (dd + 1) + 183; omega⟩) (lm_0 X) rfl rfl rfl (Nat.le_of_ble_eq_true rfl) dX10_relation_59 ⟨Nat.zero_le _, Nat.zero_le _⟩ (fun H locs hP hS => ?_)
          refine lv_if_eq (tgt := 69) hx hb dX10_relation_62 (by decide) (fun c23 => ?_) (fun c23 => ?_)
          · have h := of_t h c23
            refine lv_aload_n hx hb dX10_relation_69 rfl (lv_at hl 0 rfl) ?_
            refine lv_bipush (v := 114) hx hb dX10_relation_70 (by decide) ?_
            obtain ⟨r24, σ25, g26, h⟩ := of_bnd h
            refine x_VI (As := [.int 114]) (rest := []) hF hl hP hS (c_X10_is hX g26) (cw_X10_238 hC rfl rfl ⟨by show 0 + 1 ≤ dd + 1 + 10; omega, by show 8 + (2 + 11) + (0) ≤ 40 * (dd + 1) + 183; omega⟩) (lm_0 X) rfl rfl rfl (Nat.le_of_ble_eq_true rfl) dX10_relation_72 ⟨Nat.zero_le _, Nat.zero_le _⟩ (fun H locs hP hS => ?_)
            refine lv_if_eq (tgt := 82) hx hb dX10_relation_75 (by decide) (fun c27 => ?_) (fun c27 => ?_)
            · have h := of_t h c27
              refine lv_iconst (v := -1) hx hb dX10_relation_82 (by decide) ?_
              exact t_X10_relation_83 hX  hr_X10_expression hr_X10_both hr_X10_relation hr_X10_sum hr_X10_product hr_X10_factor hF ht htab (-1) σ25 _ _ _ h hP hS (lv_sub hl [0] rfl)
            · have h := of_f h c27
              refine lv_iconst (v := 5) hx hb dX10_relation_78 (by decide) ?_
              refine lv_goto (tgt := 83) hx hb dX10_relation_79 (by decide) ?_
              exact t_X10_relation_83 hX  hr_X10_expression hr_X10_both hr_X10_relation hr_X10_sum hr_X10_product hr_X10_factor hF ht htab 5 σ25 _ _ _ h hP hS (lv_sub hl [0] rfl)
          · have h := of_f h c23
            refine lv_iconst (v := 4) hx hb dX10_relation_65 (by decide) ?_
            refine lv_goto (tgt := 83) hx hb dX10_relation_66 (by decide) ?_
            exact t_X10_relation_83 hX  hr_X10_expression hr_X10_both hr_X10_relation hr_X10_sum hr_X10_product hr_X10_factor hF ht htab 4 σ21 _ _ _ h hP hS (lv_sub hl [0] rfl)
        · have h := of_f h c19
          refine lv_iconst (v := 3) hx hb dX10_relation_52 (by decide) ?_
          refine lv_goto (tgt := 83) hx hb dX10_relation_53 (by decide) ?_
          exact t_X10_relation_83 hX  hr_X10_expression hr_X10_both hr_X10_relation hr_X10_sum hr_X10_product hr_X10_factor hF ht htab 3 σ17 _ _ _ h hP hS (lv_sub hl [0] rfl)
      · have h := of_f h c15
        refine lv_iconst (v := 2) hx hb dX10_relation_39 (by decide) ?_
        refine lv_goto (tgt := 83) hx hb dX10_relation_40 (by decide) ?_
        exact t_X10_relation_83 hX  hr_X10_expression hr_X10_both hr_X10_relation hr_X10_sum hr_X10_product hr_X10_factor hF ht htab 2 σ13 _ _ _ h hP hS (lv_sub hl [0] rfl)
    · have h := of_f h c11
      refine lv_iconst (v := 1) hx hb dX10_relation_26 (by decide) ?_
      refine lv_goto (tgt := 83) hx hb dX10_relation_27 (by decide) ?_
      exact t_X10_relation_83 hX  hr_X10_expression hr_X10_both hr_X10_relation hr_X10_sum hr_X10_product hr_X10_factor hF ht htab 1 σ9 _ _ _ h hP hS (lv_sub hl [0] rfl)
  · have h := of_f h c7
    refine lv_iconst (v := 0) hx hb dX10_relation_13 (by decide) ?_
    refine lv_goto (tgt := 83) hx hb dX10_relation_14 (by decide) ?_
    exact t_X10_relation_83 hX  hr_X10_expression hr_X10_both hr_X10_relation hr_X10_sum hr_X10_product hr_X10_factor hF ht htab 0 σ5 _ _ _ h hP hS (lv_sub hl [0] rfl)

def f_X10_sum_22 (r_X10_expression : Sta → Option ((Unit ⊕ (Int32 × Int32)) × Sta)) (r_X10_both : Sta → Option ((Unit ⊕ (Int32 × Int32)) × Sta)) (r_X10_relation : Sta → Option ((Unit ⊕ (Int32 × Int32)) × Sta)) (r_X10_sum : Sta → Option ((Unit ⊕ (Int32 × Int32)) × Sta)) (r_X10_product : Sta → Option ((Unit ⊕ (Int32 × Int32)) × Sta)) (r_X10_factor : Sta → Option ((Unit ⊕ (Int32 × Int32)) × Sta)) (k4 : Sta → Option ((Unit ⊕ (Int32 × Int32)) × Sta)) (σ : Sta) : Option ((Unit ⊕ (Int32 × Int32)) × Sta) :=
  if gI σ 29 < 0 ∨ 1501 ≤ ((gI σ 29).toNatClampNeg) then none else (
  lt ((gA σ 3 ((gI σ 29).toNatClampNeg)) - 106) (fun x2 =>
  bnw (f_X10_take σ) (fun _ σ4 =>
  bnw (r_X10_product σ4) (fun _ σ7 =>
  bnd (f_X10_emit (10 + x2) 0 σ7) (fun _ σ10 =>
  k4 σ10)))))
set_option maxHeartbeats 4000000 in
set_option maxRecDepth 100000 in
theorem t_X10_sum_22 {l : Launch} {D : va_G} {Y : CYs} {E : Nat → Nat} {X : List Dsc} (hX : Lok (LM ++ X)) {p : Program} {e : Env} {s : State} {m : MethodId} {args : Array Value} {below : List Frame} {meth : Method} {c : Code} {r_X10_expression : Sta → Option ((Unit ⊕ (Int32 × Int32)) × Sta)} {r_X10_both : Sta → Option ((Unit ⊕ (Int32 × Int32)) × Sta)} {r_X10_relation : Sta → Option ((Unit ⊕ (Int32 × Int32)) × Sta)} {r_X10_sum : Sta → Option ((Unit ⊕ (Int32 × Int32)) × Sta)} {r_X10_product : Sta → Option ((Unit ⊕ (Int32 × Int32)) × Sta)} {r_X10_factor : Sta → Option ((Unit ⊕ (Int32 × Int32)) × Sta)} {dd : Nat} (hr_X10_expression : ∀ (σ : Sta) (o : (Unit ⊕ (Int32 × Int32)) × Sta), r_X10_expression σ = some o → MWV l yX10_expression (Cond.code yX10_expression cX10_expression 1 none :: gW) (dd + 10) (40 * dd + 183) (LM ++ X) Y D E [.ref (E 0)] σ o) (hr_X10_both : ∀ (σ : Sta) (o : (Unit ⊕ (Int32 × Int32)) × Sta), r_X10_both σ = some o → MWV l yX10_both (Cond.code yX10_both cX10_both 1 none :: gW) (dd + 10) (40 * dd + 183) (LM ++ X) Y D E [.ref (E 0)] σ o) (hr_X10_relation : ∀ (σ : Sta) (o : (Unit ⊕ (Int32 × Int32)) × Sta), r_X10_relation σ = some o → MWV l yX10_relation (Cond.code yX10_relation cX10_relation 2 none :: gW) (dd + 10) (40 * dd + 183) (LM ++ X) Y D E [.ref (E 0)] σ o) (hr_X10_sum : ∀ (σ : Sta) (o : (Unit ⊕ (Int32 × Int32)) × Sta), r_X10_sum σ = some o → MWV l yX10_sum (Cond.code yX10_sum cX10_sum 2 none :: gW) (dd + 10) (40 * dd + 183) (LM ++ X) Y D E [.ref (E 0)] σ o) (hr_X10_product : ∀ (σ : Sta) (o : (Unit ⊕ (Int32 × Int32)) × Sta), r_X10_product σ = some o → MWV l yX10_product (Cond.code yX10_product cX10_product 2 none :: gW) (dd + 10) (40 * dd + 183) (LM ++ X) Y D E [.ref (E 0)] σ o) (hr_X10_factor : ∀ (σ : Sta) (o : (Unit ⊕ (Int32 × Int32)) × Sta), r_X10_factor σ = some o → MWV l yX10_factor (Cond.code yX10_factor cX10_factor 2 none :: gW) (dd + 10) (40 * dd + 183) (LM ++ X) Y D E [.ref (E 0)] σ o) (hF : Fr p s m args meth c RX10 cX10_sum 2 none D Y E (LM ++ X)) {o : (Unit ⊕ (Int32 × Int32)) × Sta} (ht : l.stackTraces = false) (htab : ∀ X u, o = (.inr X, u) → ∀ x ∈ c.exceptionTable.toList, False) (k4 : Sta → Option ((Unit ⊕ (Int32 × Int32)) × Sta)) (hk4 : ∀ (σ : Sta) (H : Heap) (locs : List Loc) (ls : Array Slot), k4 σ = some o → va_P D vwCl (wd Y E σ 0 (LM ++ X)) H → va_S (AF E (LM ++ X).length s.heap.size) s.heap H locs → lv_has ls 2 [(0, .ref (E 0))] → W p l e (rmw (dd + 1 + 10) (40 * (dd + 1) + 183) o) s m args below meth c H locs 0 0 (QwV below args s (LM ++ X) Y D E o) (F0 m 4 ls [])) : ∀ (σ : Sta) (H : Heap) (locs : List Loc) (ls : Array Slot), f_X10_sum_22 r_X10_expression r_X10_both r_X10_relation r_X10_sum r_X10_product r_X10_factor k4 σ = some o → va_P D vwCl (wd Y E σ 0 (LM ++ X)) H → va_S (AF E (LM ++ X).length s.heap.size) s.heap H locs → lv_has ls 2 [(0, .ref (E 0))] → W p l e (rmw (dd + 1 + 10) (40 * (dd + 1) + 183) o) s m args below meth c H locs 0 0 (QwV below args s (LM ++ X) Y D E o) (F0 m 22 ls []) := by
  intro σ H locs ls h hP hS hl
  unfold f_X10_sum_22 at h
  obtain ⟨hC, hb, hml, hr, hlk, hD, hSW⟩ := id hF
  have hx := hC.1
  refine lv_aload_n hx hb dX10_sum_22 rfl (lv_at hl 0 rfl) ?_
  refine gf_X10_17 hC hb hP dX10_sum_23 ?_
  refine lv_aload_n hx hb dX10_sum_26 rfl (lv_at hl 0 rfl) ?_
  refine gf_X10_219 hC hb hP dX10_sum_27 ?_
  obtain ⟨g1, h⟩ := of_gd h
  refine x_iald hC hb hP (lm_3 X) g1 dX10_sum_30 ?_
  refine lv_bipush (v := 106) hx hb dX10_sum_31 (by decide) ?_
  refine lv_isub hx hb dX10_sum_33 ?_
  refine lv_topi (fun x2 ex2 => ?_)
  have h := of_lt h ex2
  refine lv_istore_n (lv' := [(1, .int x2), (0, .ref (E 0))]) hx hb dX10_sum_34 rfl hl (by decide) rfl (fun ls hl => ?_)
  refine lv_aload_n hx hb dX10_sum_35 rfl (lv_at hl 1 rfl) ?_
  rcases of_bnw h with ⟨r3, σ4, g5, h⟩ | ⟨Xx, σ4, g5, rfl⟩
  rotate_left
  · exact x_VTw (As := []) (rest := []) hF hl hP hS (c_X10_take hX ht g5) (cw_X10_241 hC rfl rfl ⟨by show 7 + 1 ≤ dd + 1 + 10; omega, by show 8 + (1 + 11) + (122) ≤ 40 * (dd + 1) + 183; omega⟩) (lm_0 X) rfl rfl rfl (Nat.le_of_ble_eq_true rfl) dX10_sum_36 ⟨Nat.le_refl _, Nat.le_refl _⟩ (htab _ _ rfl)
  refine x_VV (As := []) (rest := []) hF hl hP hS (c_X10_take hX ht g5) (cw_X10_241 hC rfl rfl ⟨by show 7 + 1 ≤ dd + 1 + 10; omega, by show 8 + (1 + 11) + (122) ≤ 40 * (dd + 1) + 183; omega⟩) (lm_0 X) rfl rfl rfl (Nat.le_of_ble_eq_true rfl) dX10_sum_36 ⟨Nat.zero_le _, Nat.zero_le _⟩ (fun H locs hP hS => ?_)
  refine lv_aload_n hx hb dX10_sum_39 rfl (lv_at hl 1 rfl) ?_
  rcases of_bnw h with ⟨r6, σ7, g8, h⟩ | ⟨Xx, σ7, g8, rfl⟩
  rotate_left
  · exact x_VTw (As := []) (rest := []) hF hl hP hS (hr_X10_product _ _ g8) (cw_X10_263 hC rfl rfl ⟨by show dd + 10 + 1 ≤ dd + 1 + 10; omega, by show 8 + (2 + 11) + (40 * dd + 183) ≤ 40 * (dd + 1) + 183; omega⟩) (lm_0 X) rfl rfl rfl (Nat.le_of_ble_eq_true rfl) dX10_sum_40 ⟨Nat.le_refl _, Nat.le_refl _⟩ (htab _ _ rfl)
  refine x_VV (As := []) (rest := []) hF hl hP hS (hr_X10_product _ _ g8) (cw_X10_263 hC rfl rfl ⟨by show dd + 10 + 1 ≤ dd + 1 + 10; omega, by show 8 + (2 + 11) + (40 * dd + 183) ≤ 40 * (dd + 1) + 183; omega⟩) (lm_0 X) rfl rfl rfl (Nat.le_of_ble_eq_true rfl) dX10_sum_40 ⟨Nat.zero_le _, Nat.zero_le _⟩ (fun H locs hP hS => ?_)
  refine lv_aload_n hx hb dX10_sum_43 rfl (lv_at hl 1 rfl) ?_
  refine lv_bipush (v := 10) hx hb dX10_sum_44 (by decide) ?_
  refine lv_iload_n hx hb dX10_sum_46 rfl (lv_at hl 0 rfl) ?_
  refine lv_iadd hx hb dX10_sum_47 ?_
  refine lv_lconst (v := 0) hx hb dX10_sum_48 (by decide) ?_
  obtain ⟨r9, σ10, g11, h⟩ := of_bnd h
  refine x_VV (As := [.int (10 + x2), .long 0]) (rest := []) hF hl hP hS (c_X10_emit hX g11) (cw_X10_250 hC rfl rfl ⟨by show 0 + 1 ≤ dd + 1 + 10; omega, by show 8 + (4 + 11) + (0) ≤ 40 * (dd + 1) + 183; omega⟩) (lm_0 X) rfl rfl rfl (Nat.le_of_ble_eq_true rfl) dX10_sum_49 ⟨Nat.zero_le _, Nat.zero_le _⟩ (fun H locs hP hS => ?_)
  refine lv_goto (tgt := 4) hx hb dX10_sum_52 (by decide) ?_
  exact hk4 σ10 _ _ _ h hP hS (lv_sub hl [1] rfl)

def f_X10_sum_4 (r_X10_expression : Sta → Option ((Unit ⊕ (Int32 × Int32)) × Sta)) (r_X10_both : Sta → Option ((Unit ⊕ (Int32 × Int32)) × Sta)) (r_X10_relation : Sta → Option ((Unit ⊕ (Int32 × Int32)) × Sta)) (r_X10_sum : Sta → Option ((Unit ⊕ (Int32 × Int32)) × Sta)) (r_X10_product : Sta → Option ((Unit ⊕ (Int32 × Int32)) × Sta)) (r_X10_factor : Sta → Option ((Unit ⊕ (Int32 × Int32)) × Sta)) : Nat → Sta → Option ((Unit ⊕ (Int32 × Int32)) × Sta)
  | 0, _ => none
  | n + 1, σ => bnd (f_X10_is 106 σ) (fun r1 σ2 =>
    if r1 = 0 then
      bnd (f_X10_is 107 σ2) (fun r5 σ6 =>
      if r5 = 0 then
        some (.inl (), σ6)
      else
        f_X10_sum_22 r_X10_expression r_X10_both r_X10_relation r_X10_sum r_X10_product r_X10_factor (f_X10_sum_4 r_X10_expression r_X10_both r_X10_relation r_X10_sum r_X10_product r_X10_factor n) σ6)
    else
      f_X10_sum_22 r_X10_expression r_X10_both r_X10_relation r_X10_sum r_X10_product r_X10_factor (f_X10_sum_4 r_X10_expression r_X10_both r_X10_relation r_X10_sum r_X10_product r_X10_factor n) σ2)
set_option maxHeartbeats 4000000 in
set_option maxRecDepth 100000 in
theorem t_X10_sum_4 {l : Launch} {D : va_G} {Y : CYs} {E : Nat → Nat} {X : List Dsc} (hX : Lok (LM ++ X)) {p : Program} {e : Env} {s : State} {m : MethodId} {args : Array Value} {below : List Frame} {meth : Method} {c : Code} {r_X10_expression : Sta → Option ((Unit ⊕ (Int32 × Int32)) × Sta)} {r_X10_both : Sta → Option ((Unit ⊕ (Int32 × Int32)) × Sta)} {r_X10_relation : Sta → Option ((Unit ⊕ (Int32 × Int32)) × Sta)} {r_X10_sum : Sta → Option ((Unit ⊕ (Int32 × Int32)) × Sta)} {r_X10_product : Sta → Option ((Unit ⊕ (Int32 × Int32)) × Sta)} {r_X10_factor : Sta → Option ((Unit ⊕ (Int32 × Int32)) × Sta)} {dd : Nat} (hr_X10_expression : ∀ (σ : Sta) (o : (Unit ⊕ (Int32 × Int32)) × Sta), r_X10_expression σ = some o → MWV l yX10_expression (Cond.code yX10_expression cX10_expression 1 none :: gW) (dd + 10) (40 * dd + 183) (LM ++ X) Y D E [.ref (E 0)] σ o) (hr_X10_both : ∀ (σ : Sta) (o : (Unit ⊕ (Int32 × Int32)) × Sta), r_X10_both σ = some o → MWV l yX10_both (Cond.code yX10_both cX10_both 1 none :: gW) (dd + 10) (40 * dd + 183) (LM ++ X) Y D E [.ref (E 0)] σ o) (hr_X10_relation : ∀ (σ : Sta) (o : (Unit ⊕ (Int32 × Int32)) × Sta), r_X10_relation σ = some o → MWV l yX10_relation (Cond.code yX10_relation cX10_relation 2 none :: gW) (dd + 10) (40 * dd + 183) (LM ++ X) Y D E [.ref (E 0)] σ o) (hr_X10_sum : ∀ (σ : Sta) (o : (Unit ⊕ (Int32 × Int32)) × Sta), r_X10_sum σ = some o → MWV l yX10_sum (Cond.code yX10_sum cX10_sum 2 none :: gW) (dd + 10) (40 * dd + 183) (LM ++ X) Y D E [.ref (E 0)] σ o) (hr_X10_product : ∀ (σ : Sta) (o : (Unit ⊕ (Int32 × Int32)) × Sta), r_X10_product σ = some o → MWV l yX10_product (Cond.code yX10_product cX10_product 2 none :: gW) (dd + 10) (40 * dd + 183) (LM ++ X) Y D E [.ref (E 0)] σ o) (hr_X10_factor : ∀ (σ : Sta) (o : (Unit ⊕ (Int32 × Int32)) × Sta), r_X10_factor σ = some o → MWV l yX10_factor (Cond.code yX10_factor cX10_factor 2 none :: gW) (dd + 10) (40 * dd + 183) (LM ++ X) Y D E [.ref (E 0)] σ o) (hF : Fr p s m args meth c RX10 cX10_sum 2 none D Y E (LM ++ X)) {o : (Unit ⊕ (Int32 × Int32)) × Sta} (ht : l.stackTraces = false) (htab : ∀ X u, o = (.inr X, u) → ∀ x ∈ c.exceptionTable.toList, False) : ∀ (n : Nat) (σ : Sta) (H : Heap) (locs : List Loc) (ls : Array Slot), f_X10_sum_4 r_X10_expression r_X10_both r_X10_relation r_X10_sum r_X10_product r_X10_factor n σ = some o → va_P D vwCl (wd Y E σ 0 (LM ++ X)) H → va_S (AF E (LM ++ X).length s.heap.size) s.heap H locs → lv_has ls 2 [(0, .ref (E 0))] → W p l e (rmw (dd + 1 + 10) (40 * (dd + 1) + 183) o) s m args below meth c H locs 0 0 (QwV below args s (LM ++ X) Y D E o) (F0 m 4 ls []) := by
  intro n
  induction n with
  | zero =>
    intro σ H locs ls h hP hS hl
    exact nomatch (show (none : Option ((Unit ⊕ (Int32 × Int32)) × Sta)) = some o from h)
  | succ n ih =>
    intro σ H locs ls h hP hS hl
    rw [f_X10_sum_4] at h
    obtain ⟨hC, hb, hml, hr, hlk, hD, hSW⟩ := id hF
    have hx := hC.1
    refine lv_aload_n hx hb dX10_sum_4 rfl (lv_at hl 0 rfl) ?_
    refine lv_bipush (v := 106) hx hb dX10_sum_5 (by decide) ?_
    obtain ⟨r1, σ2, g3, h⟩ := of_bnd h
    refine x_VI (As := [.int 106]) (rest := []) hF hl hP hS (c_X10_is hX g3) (cw_X10_238 hC rfl rfl ⟨by show 0 + 1 ≤ dd + 1 + 10; omega, by show 8 + (2 + 11) + (0) ≤ 40 * (dd + 1) + 183; omega⟩) (lm_0 X) rfl rfl rfl (Nat.le_of_ble_eq_true rfl) dX10_sum_7 ⟨Nat.zero_le _, Nat.zero_le _⟩ (fun H locs hP hS => ?_)
    refine lv_if_ne (tgt := 22) hx hb dX10_sum_10 (by decide) (fun c4 => ?_) (fun c4 => ?_)
    · have h := of_f h c4
      exact t_X10_sum_22 hX  hr_X10_expression hr_X10_both hr_X10_relation hr_X10_sum hr_X10_product hr_X10_factor hF ht htab (f_X10_sum_4 r_X10_expression r_X10_both r_X10_relation r_X10_sum r_X10_product r_X10_factor n) ih σ2 _ _ _ h hP hS (lv_sub hl [0] rfl)
    · have h := of_t h c4
      refine lv_aload_n hx hb dX10_sum_13 rfl (lv_at hl 0 rfl) ?_
      refine lv_bipush (v := 107) hx hb dX10_sum_14 (by decide) ?_
      obtain ⟨r5, σ6, g7, h⟩ := of_bnd h
      refine x_VI (As := [.int 107]) (rest := []) hF hl hP hS (c_X10_is hX g7) (cw_X10_238 hC rfl rfl ⟨by show 0 + 1 ≤ dd + 1 + 10; omega, by show 8 + (2 + 11) + (0) ≤ 40 * (dd + 1) + 183; omega⟩) (lm_0 X) rfl rfl rfl (Nat.le_of_ble_eq_true rfl) dX10_sum_16 ⟨Nat.zero_le _, Nat.zero_le _⟩ (fun H locs hP hS => ?_)
      refine lv_if_eq (tgt := 55) hx hb dX10_sum_19 (by decide) (fun c8 => ?_) (fun c8 => ?_)
      · have h := of_t h c8
        exact x_vretW hF hP hS h dX10_sum_55
      · have h := of_f h c8
        exact t_X10_sum_22 hX  hr_X10_expression hr_X10_both hr_X10_relation hr_X10_sum hr_X10_product hr_X10_factor hF ht htab (f_X10_sum_4 r_X10_expression r_X10_both r_X10_relation r_X10_sum r_X10_product r_X10_factor n) ih σ6 _ _ _ h hP hS (lv_sub hl [0] rfl)

def fb_X10_sum (r_X10_expression : Sta → Option ((Unit ⊕ (Int32 × Int32)) × Sta)) (r_X10_both : Sta → Option ((Unit ⊕ (Int32 × Int32)) × Sta)) (r_X10_relation : Sta → Option ((Unit ⊕ (Int32 × Int32)) × Sta)) (r_X10_sum : Sta → Option ((Unit ⊕ (Int32 × Int32)) × Sta)) (r_X10_product : Sta → Option ((Unit ⊕ (Int32 × Int32)) × Sta)) (r_X10_factor : Sta → Option ((Unit ⊕ (Int32 × Int32)) × Sta)) (σ : Sta) : Option ((Unit ⊕ (Int32 × Int32)) × Sta) :=
  bnw (r_X10_product σ) (fun _ σ2 =>
  f_X10_sum_4 r_X10_expression r_X10_both r_X10_relation r_X10_sum r_X10_product r_X10_factor FU σ2)
set_option maxHeartbeats 4000000 in
set_option maxRecDepth 100000 in
theorem cb_X10_sum {l : Launch} {D : va_G} {Y : CYs} {E : Nat → Nat} {X : List Dsc} (hX : Lok (LM ++ X)) {r_X10_expression : Sta → Option ((Unit ⊕ (Int32 × Int32)) × Sta)} {r_X10_both : Sta → Option ((Unit ⊕ (Int32 × Int32)) × Sta)} {r_X10_relation : Sta → Option ((Unit ⊕ (Int32 × Int32)) × Sta)} {r_X10_sum : Sta → Option ((Unit ⊕ (Int32 × Int32)) × Sta)} {r_X10_product : Sta → Option ((Unit ⊕ (Int32 × Int32)) × Sta)} {r_X10_factor : Sta → Option ((Unit ⊕ (Int32 × Int32)) × Sta)} {dd : Nat} (hr_X10_expression : ∀ (σ : Sta) (o : (Unit ⊕ (Int32 × Int32)) × Sta), r_X10_expression σ = some o → MWV l yX10_expression (Cond.code yX10_expression cX10_expression 1 none :: gW) (dd + 10) (40 * dd + 183) (LM ++ X) Y D E [.ref (E 0)] σ o) (hr_X10_both : ∀ (σ : Sta) (o : (Unit ⊕ (Int32 × Int32)) × Sta), r_X10_both σ = some o → MWV l yX10_both (Cond.code yX10_both cX10_both 1 none :: gW) (dd + 10) (40 * dd + 183) (LM ++ X) Y D E [.ref (E 0)] σ o) (hr_X10_relation : ∀ (σ : Sta) (o : (Unit ⊕ (Int32 × Int32)) × Sta), r_X10_relation σ = some o → MWV l yX10_relation (Cond.code yX10_relation cX10_relation 2 none :: gW) (dd + 10) (40 * dd + 183) (LM ++ X) Y D E [.ref (E 0)] σ o) (hr_X10_sum : ∀ (σ : Sta) (o : (Unit ⊕ (Int32 × Int32)) × Sta), r_X10_sum σ = some o → MWV l yX10_sum (Cond.code yX10_sum cX10_sum 2 none :: gW) (dd + 10) (40 * dd + 183) (LM ++ X) Y D E [.ref (E 0)] σ o) (hr_X10_product : ∀ (σ : Sta) (o : (Unit ⊕ (Int32 × Int32)) × Sta), r_X10_product σ = some o → MWV l yX10_product (Cond.code yX10_product cX10_product 2 none :: gW) (dd + 10) (40 * dd + 183) (LM ++ X) Y D E [.ref (E 0)] σ o) (hr_X10_factor : ∀ (σ : Sta) (o : (Unit ⊕ (Int32 × Int32)) × Sta), r_X10_factor σ = some o → MWV l yX10_factor (Cond.code yX10_factor cX10_factor 2 none :: gW) (dd + 10) (40 * dd + 183) (LM ++ X) Y D E [.ref (E 0)] σ o) (ht : l.stackTraces = false) {σ : Sta} {o : (Unit ⊕ (Int32 × Int32)) × Sta} (h : fb_X10_sum r_X10_expression r_X10_both r_X10_relation r_X10_sum r_X10_product r_X10_factor σ = some o) : MWV l yX10_sum (Cond.code yX10_sum cX10_sum 2 none :: gW) (dd + 1 + 10) (40 * (dd + 1) + 183) (LM ++ X) Y D E [.ref (E 0)] σ o := by
  refine Met_ofWV (by decide) (Nat.le_of_ble_eq_true rfl) (fun p e s m args below meth c hF hP htab ls hl => ?_)
  have hS : va_S (AF E (LM ++ X).length s.heap.size) s.heap s.heap [] := va_S.rf
  have hl : lv_has ls 2 [(0, .ref (E 0))] := hl
  show W p l e (rmw (dd + 1 + 10) (40 * (dd + 1) + 183) o) s m args below meth c s.heap [] 0 0 (QwV below args s (LM ++ X) Y D E o) (F0 m 0 ls [])
  unfold fb_X10_sum at h
  obtain ⟨hC, hb, hml, hr, hlk, hD, hSW⟩ := id hF
  have hx := hC.1
  refine lv_aload_n hx hb dX10_sum_0 rfl (lv_at hl 0 rfl) ?_
  rcases of_bnw h with ⟨r1, σ2, g3, h⟩ | ⟨Xx, σ2, g3, rfl⟩
  rotate_left
  · exact x_VTw (As := []) (rest := []) hF hl hP hS (hr_X10_product _ _ g3) (cw_X10_263 hC rfl rfl ⟨by show dd + 10 + 1 ≤ dd + 1 + 10; omega, by show 8 + (2 + 11) + (40 * dd + 183) ≤ 40 * (dd + 1) + 183; omega⟩) (lm_0 X) rfl rfl rfl (Nat.le_of_ble_eq_true rfl) dX10_sum_1 ⟨Nat.le_refl _, Nat.le_refl _⟩ (htab _ _ rfl)
  refine x_VV (As := []) (rest := []) hF hl hP hS (hr_X10_product _ _ g3) (cw_X10_263 hC rfl rfl ⟨by show dd + 10 + 1 ≤ dd + 1 + 10; omega, by show 8 + (2 + 11) + (40 * dd + 183) ≤ 40 * (dd + 1) + 183; omega⟩) (lm_0 X) rfl rfl rfl (Nat.le_of_ble_eq_true rfl) dX10_sum_1 ⟨Nat.zero_le _, Nat.zero_le _⟩ (fun H locs hP hS => ?_)
  exact t_X10_sum_4 hX  hr_X10_expression hr_X10_both hr_X10_relation hr_X10_sum hr_X10_product hr_X10_factor hF ht htab FU σ2 _ _ _ h hP hS (lv_sub hl [0] rfl)

def f_X10_product_4 (r_X10_expression : Sta → Option ((Unit ⊕ (Int32 × Int32)) × Sta)) (r_X10_both : Sta → Option ((Unit ⊕ (Int32 × Int32)) × Sta)) (r_X10_relation : Sta → Option ((Unit ⊕ (Int32 × Int32)) × Sta)) (r_X10_sum : Sta → Option ((Unit ⊕ (Int32 × Int32)) × Sta)) (r_X10_product : Sta → Option ((Unit ⊕ (Int32 × Int32)) × Sta)) (r_X10_factor : Sta → Option ((Unit ⊕ (Int32 × Int32)) × Sta)) : Nat → Sta → Option ((Unit ⊕ (Int32 × Int32)) × Sta)
  | 0, _ => none
  | n + 1, σ => if gI σ 29 < 0 ∨ 1501 ≤ ((gI σ 29).toNatClampNeg) then none else (
    bnd (f_X10_isIn ((gA σ 3 ((gI σ 29).toNatClampNeg)).toInt64) 108 110 σ) (fun r2 σ3 =>
    if r2 = 0 then
      some (.inl (), σ3)
    else
      if gI σ3 29 < 0 ∨ 1501 ≤ ((gI σ3 29).toNatClampNeg) then none else (
      lt ((gA σ3 3 ((gI σ3 29).toNatClampNeg)) - 106) (fun x7 =>
      bnw (f_X10_take σ3) (fun _ σ9 =>
      bnw (r_X10_factor σ9) (fun _ σ12 =>
      bnd (f_X10_emit (10 + x7) 0 σ12) (fun _ σ15 =>
      f_X10_product_4 r_X10_expression r_X10_both r_X10_relation r_X10_sum r_X10_product r_X10_factor n σ15)))))))
set_option maxHeartbeats 4000000 in
set_option maxRecDepth 100000 in
theorem t_X10_product_4 {l : Launch} {D : va_G} {Y : CYs} {E : Nat → Nat} {X : List Dsc} (hX : Lok (LM ++ X)) {p : Program} {e : Env} {s : State} {m : MethodId} {args : Array Value} {below : List Frame} {meth : Method} {c : Code} {r_X10_expression : Sta → Option ((Unit ⊕ (Int32 × Int32)) × Sta)} {r_X10_both : Sta → Option ((Unit ⊕ (Int32 × Int32)) × Sta)} {r_X10_relation : Sta → Option ((Unit ⊕ (Int32 × Int32)) × Sta)} {r_X10_sum : Sta → Option ((Unit ⊕ (Int32 × Int32)) × Sta)} {r_X10_product : Sta → Option ((Unit ⊕ (Int32 × Int32)) × Sta)} {r_X10_factor : Sta → Option ((Unit ⊕ (Int32 × Int32)) × Sta)} {dd : Nat} (hr_X10_expression : ∀ (σ : Sta) (o : (Unit ⊕ (Int32 × Int32)) × Sta), r_X10_expression σ = some o → MWV l yX10_expression (Cond.code yX10_expression cX10_expression 1 none :: gW) (dd + 10) (40 * dd + 183) (LM ++ X) Y D E [.ref (E 0)] σ o) (hr_X10_both : ∀ (σ : Sta) (o : (Unit ⊕ (Int32 × Int32)) × Sta), r_X10_both σ = some o → MWV l yX10_both (Cond.code yX10_both cX10_both 1 none :: gW) (dd + 10) (40 * dd + 183) (LM ++ X) Y D E [.ref (E 0)] σ o) (hr_X10_relation : ∀ (σ : Sta) (o : (Unit ⊕ (Int32 × Int32)) × Sta), r_X10_relation σ = some o → MWV l yX10_relation (Cond.code yX10_relation cX10_relation 2 none :: gW) (dd + 10) (40 * dd + 183) (LM ++ X) Y D E [.ref (E 0)] σ o) (hr_X10_sum : ∀ (σ : Sta) (o : (Unit ⊕ (Int32 × Int32)) × Sta), r_X10_sum σ = some o → MWV l yX10_sum (Cond.code yX10_sum cX10_sum 2 none :: gW) (dd + 10) (40 * dd + 183) (LM ++ X) Y D E [.ref (E 0)] σ o) (hr_X10_product : ∀ (σ : Sta) (o : (Unit ⊕ (Int32 × Int32)) × Sta), r_X10_product σ = some o → MWV l yX10_product (Cond.code yX10_product cX10_product 2 none :: gW) (dd + 10) (40 * dd + 183) (LM ++ X) Y D E [.ref (E 0)] σ o) (hr_X10_factor : ∀ (σ : Sta) (o : (Unit ⊕ (Int32 × Int32)) × Sta), r_X10_factor σ = some o → MWV l yX10_factor (Cond.code yX10_factor cX10_factor 2 none :: gW) (dd + 10) (40 * dd + 183) (LM ++ X) Y D E [.ref (E 0)] σ o) (hF : Fr p s m args meth c RX10 cX10_product 2 none D Y E (LM ++ X)) {o : (Unit ⊕ (Int32 × Int32)) × Sta} (ht : l.stackTraces = false) (htab : ∀ X u, o = (.inr X, u) → ∀ x ∈ c.exceptionTable.toList, False) : ∀ (n : Nat) (σ : Sta) (H : Heap) (locs : List Loc) (ls : Array Slot), f_X10_product_4 r_X10_expression r_X10_both r_X10_relation r_X10_sum r_X10_product r_X10_factor n σ = some o → va_P D vwCl (wd Y E σ 0 (LM ++ X)) H → va_S (AF E (LM ++ X).length s.heap.size) s.heap H locs → lv_has ls 2 [(0, .ref (E 0))] → W p l e (rmw (dd + 1 + 10) (40 * (dd + 1) + 183) o) s m args below meth c H locs 0 0 (QwV below args s (LM ++ X) Y D E o) (F0 m 4 ls []) := by
  intro n
  induction n with
  | zero =>
    intro σ H locs ls h hP hS hl
    exact nomatch (show (none : Option ((Unit ⊕ (Int32 × Int32)) × Sta)) = some o from h)
  | succ n ih =>
    intro σ H locs ls h hP hS hl
    rw [f_X10_product_4] at h
    obtain ⟨hC, hb, hml, hr, hlk, hD, hSW⟩ := id hF
    have hx := hC.1
    refine lv_aload_n hx hb dX10_product_4 rfl (lv_at hl 0 rfl) ?_
    refine gf_X10_17 hC hb hP dX10_product_5 ?_
    refine lv_aload_n hx hb dX10_product_8 rfl (lv_at hl 0 rfl) ?_
    refine gf_X10_219 hC hb hP dX10_product_9 ?_
    obtain ⟨g1, h⟩ := of_gd h
    refine x_iald hC hb hP (lm_3 X) g1 dX10_product_12 ?_
    refine lv_i2l (v := (gA σ 3 ((gI σ 29).toNatClampNeg)).toInt64) hx hb dX10_product_13 rfl ?_
    refine lv_ldc2 (v := 108) hx hb hC.2.2.1 (hC.2.1 (Cond.constantLong RX10 269 108) (gw_t (tb7 (List.mem_of_getElem? (i := 167) rfl)) rfl)) dX10_product_14 ?_
    refine lv_ldc2 (v := 110) hx hb hC.2.2.1 (hC.2.1 (Cond.constantLong RX10 271 110) (gw_t (tb7 (List.mem_of_getElem? (i := 168) rfl)) rfl)) dX10_product_17 ?_
    obtain ⟨r2, σ3, g4, h⟩ := of_bnd h
    refine x_SI (As := [.long ((gA σ 3 ((gI σ 29).toNatClampNeg)).toInt64), .long 108, .long 110]) (rest := []) hF hl hP hS (c_X10_isIn hX g4) (cw_X10_154 hC rfl rfl ⟨by show 0 + 1 ≤ dd + 1 + 10; omega, by show 8 + (6 + 11) + (0) ≤ 40 * (dd + 1) + 183; omega⟩) rfl rfl (Nat.le_of_ble_eq_true rfl) dX10_product_20 ⟨Nat.zero_le _, Nat.zero_le _⟩ (fun H locs hP hS => ?_)
    refine lv_if_eq (tgt := 59) hx hb dX10_product_23 (by decide) (fun c5 => ?_) (fun c5 => ?_)
    · have h := of_t h c5
      exact x_vretW hF hP hS h dX10_product_59
    · have h := of_f h c5
      refine lv_aload_n hx hb dX10_product_26 rfl (lv_at hl 0 rfl) ?_
      refine gf_X10_17 hC hb hP dX10_product_27 ?_
      refine lv_aload_n hx hb dX10_product_30 rfl (lv_at hl 0 rfl) ?_
      refine gf_X10_219 hC hb hP dX10_product_31 ?_
      obtain ⟨g6, h⟩ := of_gd h
      refine x_iald hC hb hP (lm_3 X) g6 dX10_product_34 ?_
      refine lv_bipush (v := 106) hx hb dX10_product_35 (by decide) ?_
      refine lv_isub hx hb dX10_product_37 ?_
      refine lv_topi (fun x7 ex7 => ?_)
      have h := of_lt h ex7
      refine lv_istore_n (lv' := [(1, .int x7), (0, .ref (E 0))]) hx hb dX10_product_38 rfl hl (by decide) rfl (fun ls hl => ?_)
      refine lv_aload_n hx hb dX10_product_39 rfl (lv_at hl 1 rfl) ?_
      rcases of_bnw h with ⟨r8, σ9, g10, h⟩ | ⟨Xx, σ9, g10, rfl⟩
      rotate_left
      · exact x_VTw (As := []) (rest := []) hF hl hP hS (c_X10_take hX ht g10) (cw_X10_241 hC rfl rfl ⟨by show 7 + 1 ≤ dd + 1 + 10; omega, by show 8 + (1 + 11) + (122) ≤ 40 * (dd + 1) + 183; omega⟩) (lm_0 X) rfl rfl rfl (Nat.le_of_ble_eq_true rfl) dX10_product_40 ⟨Nat.le_refl _, Nat.le_refl _⟩ (htab _ _ rfl)
      refine x_VV (As := []) (rest := []) hF hl hP hS (c_X10_take hX ht g10) (cw_X10_241 hC rfl rfl ⟨by show 7 + 1 ≤ dd + 1 + 10; omega, by show 8 + (1 + 11) + (122) ≤ 40 * (dd + 1) + 183; omega⟩) (lm_0 X) rfl rfl rfl (Nat.le_of_ble_eq_true rfl) dX10_product_40 ⟨Nat.zero_le _, Nat.zero_le _⟩ (fun H locs hP hS => ?_)
      refine lv_aload_n hx hb dX10_product_43 rfl (lv_at hl 1 rfl) ?_
      rcases of_bnw h with ⟨r11, σ12, g13, h⟩ | ⟨Xx, σ12, g13, rfl⟩
      rotate_left
      · exact x_VTw (As := []) (rest := []) hF hl hP hS (hr_X10_factor _ _ g13) (cw_X10_266 hC rfl rfl ⟨by show dd + 10 + 1 ≤ dd + 1 + 10; omega, by show 8 + (2 + 11) + (40 * dd + 183) ≤ 40 * (dd + 1) + 183; omega⟩) (lm_0 X) rfl rfl rfl (Nat.le_of_ble_eq_true rfl) dX10_product_44 ⟨Nat.le_refl _, Nat.le_refl _⟩ (htab _ _ rfl)
      refine x_VV (As := []) (rest := []) hF hl hP hS (hr_X10_factor _ _ g13) (cw_X10_266 hC rfl rfl ⟨by show dd + 10 + 1 ≤ dd + 1 + 10; omega, by show 8 + (2 + 11) + (40 * dd + 183) ≤ 40 * (dd + 1) + 183; omega⟩) (lm_0 X) rfl rfl rfl (Nat.le_of_ble_eq_true rfl) dX10_product_44 ⟨Nat.zero_le _, Nat.zero_le _⟩ (fun H locs hP hS => ?_)
      refine lv_aload_n hx hb dX10_product_47 rfl (lv_at hl 1 rfl) ?_
      refine lv_bipush (v := 10) hx hb dX10_product_48 (by decide) ?_
      refine lv_iload_n hx hb dX10_product_50 rfl (lv_at hl 0 rfl) ?_
      refine lv_iadd hx hb dX10_product_51 ?_
      refine lv_lconst (v := 0) hx hb dX10_product_52 (by decide) ?_
      obtain ⟨r14, σ15, g16, h⟩ := of_bnd h
      refine x_VV (As := [.int (10 + x7), .long 0]) (rest := []) hF hl hP hS (c_X10_emit hX g16) (cw_X10_250 hC rfl rfl ⟨by show 0 + 1 ≤ dd + 1 + 10; omega, by show 8 + (4 + 11) + (0) ≤ 40 * (dd + 1) + 183; omega⟩) (lm_0 X) rfl rfl rfl (Nat.le_of_ble_eq_true rfl) dX10_product_53 ⟨Nat.zero_le _, Nat.zero_le _⟩ (fun H locs hP hS => ?_)
      refine lv_goto (tgt := 4) hx hb dX10_product_56 (by decide) ?_
      exact ih σ15 _ _ _ h hP hS (lv_sub hl [1] rfl)

def fb_X10_product (r_X10_expression : Sta → Option ((Unit ⊕ (Int32 × Int32)) × Sta)) (r_X10_both : Sta → Option ((Unit ⊕ (Int32 × Int32)) × Sta)) (r_X10_relation : Sta → Option ((Unit ⊕ (Int32 × Int32)) × Sta)) (r_X10_sum : Sta → Option ((Unit ⊕ (Int32 × Int32)) × Sta)) (r_X10_product : Sta → Option ((Unit ⊕ (Int32 × Int32)) × Sta)) (r_X10_factor : Sta → Option ((Unit ⊕ (Int32 × Int32)) × Sta)) (σ : Sta) : Option ((Unit ⊕ (Int32 × Int32)) × Sta) :=
  bnw (r_X10_factor σ) (fun _ σ2 =>
  f_X10_product_4 r_X10_expression r_X10_both r_X10_relation r_X10_sum r_X10_product r_X10_factor FU σ2)
set_option maxHeartbeats 4000000 in
set_option maxRecDepth 100000 in
theorem cb_X10_product {l : Launch} {D : va_G} {Y : CYs} {E : Nat → Nat} {X : List Dsc} (hX : Lok (LM ++ X)) {r_X10_expression : Sta → Option ((Unit ⊕ (Int32 × Int32)) × Sta)} {r_X10_both : Sta → Option ((Unit ⊕ (Int32 × Int32)) × Sta)} {r_X10_relation : Sta → Option ((Unit ⊕ (Int32 × Int32)) × Sta)} {r_X10_sum : Sta → Option ((Unit ⊕ (Int32 × Int32)) × Sta)} {r_X10_product : Sta → Option ((Unit ⊕ (Int32 × Int32)) × Sta)} {r_X10_factor : Sta → Option ((Unit ⊕ (Int32 × Int32)) × Sta)} {dd : Nat} (hr_X10_expression : ∀ (σ : Sta) (o : (Unit ⊕ (Int32 × Int32)) × Sta), r_X10_expression σ = some o → MWV l yX10_expression (Cond.code yX10_expression cX10_expression 1 none :: gW) (dd + 10) (40 * dd + 183) (LM ++ X) Y D E [.ref (E 0)] σ o) (hr_X10_both : ∀ (σ : Sta) (o : (Unit ⊕ (Int32 × Int32)) × Sta), r_X10_both σ = some o → MWV l yX10_both (Cond.code yX10_both cX10_both 1 none :: gW) (dd + 10) (40 * dd + 183) (LM ++ X) Y D E [.ref (E 0)] σ o) (hr_X10_relation : ∀ (σ : Sta) (o : (Unit ⊕ (Int32 × Int32)) × Sta), r_X10_relation σ = some o → MWV l yX10_relation (Cond.code yX10_relation cX10_relation 2 none :: gW) (dd + 10) (40 * dd + 183) (LM ++ X) Y D E [.ref (E 0)] σ o) (hr_X10_sum : ∀ (σ : Sta) (o : (Unit ⊕ (Int32 × Int32)) × Sta), r_X10_sum σ = some o → MWV l yX10_sum (Cond.code yX10_sum cX10_sum 2 none :: gW) (dd + 10) (40 * dd + 183) (LM ++ X) Y D E [.ref (E 0)] σ o) (hr_X10_product : ∀ (σ : Sta) (o : (Unit ⊕ (Int32 × Int32)) × Sta), r_X10_product σ = some o → MWV l yX10_product (Cond.code yX10_product cX10_product 2 none :: gW) (dd + 10) (40 * dd + 183) (LM ++ X) Y D E [.ref (E 0)] σ o) (hr_X10_factor : ∀ (σ : Sta) (o : (Unit ⊕ (Int32 × Int32)) × Sta), r_X10_factor σ = some o → MWV l yX10_factor (Cond.code yX10_factor cX10_factor 2 none :: gW) (dd + 10) (40 * dd + 183) (LM ++ X) Y D E [.ref (E 0)] σ o) (ht : l.stackTraces = false) {σ : Sta} {o : (Unit ⊕ (Int32 × Int32)) × Sta} (h : fb_X10_product r_X10_expression r_X10_both r_X10_relation r_X10_sum r_X10_product r_X10_factor σ = some o) : MWV l yX10_product (Cond.code yX10_product cX10_product 2 none :: gW) (dd + 1 + 10) (40 * (dd + 1) + 183) (LM ++ X) Y D E [.ref (E 0)] σ o := by
  refine Met_ofWV (by decide) (Nat.le_of_ble_eq_true rfl) (fun p e s m args below meth c hF hP htab ls hl => ?_)
  have hS : va_S (AF E (LM ++ X).length s.heap.size) s.heap s.heap [] := va_S.rf
  have hl : lv_has ls 2 [(0, .ref (E 0))] := hl
  show W p l e (rmw (dd + 1 + 10) (40 * (dd + 1) + 183) o) s m args below meth c s.heap [] 0 0 (QwV below args s (LM ++ X) Y D E o) (F0 m 0 ls [])
  unfold fb_X10_product at h
  obtain ⟨hC, hb, hml, hr, hlk, hD, hSW⟩ := id hF
  have hx := hC.1
  refine lv_aload_n hx hb dX10_product_0 rfl (lv_at hl 0 rfl) ?_
  rcases of_bnw h with ⟨r1, σ2, g3, h⟩ | ⟨Xx, σ2, g3, rfl⟩
  rotate_left
  · exact x_VTw (As := []) (rest := []) hF hl hP hS (hr_X10_factor _ _ g3) (cw_X10_266 hC rfl rfl ⟨by show dd + 10 + 1 ≤ dd + 1 + 10; omega, by show 8 + (2 + 11) + (40 * dd + 183) ≤ 40 * (dd + 1) + 183; omega⟩) (lm_0 X) rfl rfl rfl (Nat.le_of_ble_eq_true rfl) dX10_product_1 ⟨Nat.le_refl _, Nat.le_refl _⟩ (htab _ _ rfl)
  refine x_VV (As := []) (rest := []) hF hl hP hS (hr_X10_factor _ _ g3) (cw_X10_266 hC rfl rfl ⟨by show dd + 10 + 1 ≤ dd + 1 + 10; omega, by show 8 + (2 + 11) + (40 * dd + 183) ≤ 40 * (dd + 1) + 183; omega⟩) (lm_0 X) rfl rfl rfl (Nat.le_of_ble_eq_true rfl) dX10_product_1 ⟨Nat.zero_le _, Nat.zero_le _⟩ (fun H locs hP hS => ?_)
  exact t_X10_product_4 hX  hr_X10_expression hr_X10_both hr_X10_relation hr_X10_sum hr_X10_product hr_X10_factor hF ht htab FU σ2 _ _ _ h hP hS (lv_sub hl [0] rfl)

def f_X10_factor_258 (r_X10_expression : Sta → Option ((Unit ⊕ (Int32 × Int32)) × Sta)) (r_X10_both : Sta → Option ((Unit ⊕ (Int32 × Int32)) × Sta)) (r_X10_relation : Sta → Option ((Unit ⊕ (Int32 × Int32)) × Sta)) (r_X10_sum : Sta → Option ((Unit ⊕ (Int32 × Int32)) × Sta)) (r_X10_product : Sta → Option ((Unit ⊕ (Int32 × Int32)) × Sta)) (r_X10_factor : Sta → Option ((Unit ⊕ (Int32 × Int32)) × Sta)) (σ : Sta) : Option ((Unit ⊕ (Int32 × Int32)) × Sta) :=
  some (.inl (), σ)
set_option maxHeartbeats 4000000 in
set_option maxRecDepth 100000 in
theorem t_X10_factor_258 {l : Launch} {D : va_G} {Y : CYs} {E : Nat → Nat} {X : List Dsc} (hX : Lok (LM ++ X)) {p : Program} {e : Env} {s : State} {m : MethodId} {args : Array Value} {below : List Frame} {meth : Method} {c : Code} {r_X10_expression : Sta → Option ((Unit ⊕ (Int32 × Int32)) × Sta)} {r_X10_both : Sta → Option ((Unit ⊕ (Int32 × Int32)) × Sta)} {r_X10_relation : Sta → Option ((Unit ⊕ (Int32 × Int32)) × Sta)} {r_X10_sum : Sta → Option ((Unit ⊕ (Int32 × Int32)) × Sta)} {r_X10_product : Sta → Option ((Unit ⊕ (Int32 × Int32)) × Sta)} {r_X10_factor : Sta → Option ((Unit ⊕ (Int32 × Int32)) × Sta)} {dd : Nat} (hr_X10_expression : ∀ (σ : Sta) (o : (Unit ⊕ (Int32 × Int32)) × Sta), r_X10_expression σ = some o → MWV l yX10_expression (Cond.code yX10_expression cX10_expression 1 none :: gW) (dd + 10) (40 * dd + 183) (LM ++ X) Y D E [.ref (E 0)] σ o) (hr_X10_both : ∀ (σ : Sta) (o : (Unit ⊕ (Int32 × Int32)) × Sta), r_X10_both σ = some o → MWV l yX10_both (Cond.code yX10_both cX10_both 1 none :: gW) (dd + 10) (40 * dd + 183) (LM ++ X) Y D E [.ref (E 0)] σ o) (hr_X10_relation : ∀ (σ : Sta) (o : (Unit ⊕ (Int32 × Int32)) × Sta), r_X10_relation σ = some o → MWV l yX10_relation (Cond.code yX10_relation cX10_relation 2 none :: gW) (dd + 10) (40 * dd + 183) (LM ++ X) Y D E [.ref (E 0)] σ o) (hr_X10_sum : ∀ (σ : Sta) (o : (Unit ⊕ (Int32 × Int32)) × Sta), r_X10_sum σ = some o → MWV l yX10_sum (Cond.code yX10_sum cX10_sum 2 none :: gW) (dd + 10) (40 * dd + 183) (LM ++ X) Y D E [.ref (E 0)] σ o) (hr_X10_product : ∀ (σ : Sta) (o : (Unit ⊕ (Int32 × Int32)) × Sta), r_X10_product σ = some o → MWV l yX10_product (Cond.code yX10_product cX10_product 2 none :: gW) (dd + 10) (40 * dd + 183) (LM ++ X) Y D E [.ref (E 0)] σ o) (hr_X10_factor : ∀ (σ : Sta) (o : (Unit ⊕ (Int32 × Int32)) × Sta), r_X10_factor σ = some o → MWV l yX10_factor (Cond.code yX10_factor cX10_factor 2 none :: gW) (dd + 10) (40 * dd + 183) (LM ++ X) Y D E [.ref (E 0)] σ o) (hF : Fr p s m args meth c RX10 cX10_factor 2 none D Y E (LM ++ X)) {o : (Unit ⊕ (Int32 × Int32)) × Sta} (ht : l.stackTraces = false) (htab : ∀ X u, o = (.inr X, u) → ∀ x ∈ c.exceptionTable.toList, False) : ∀ (σ : Sta) (H : Heap) (locs : List Loc) (ls : Array Slot), f_X10_factor_258 r_X10_expression r_X10_both r_X10_relation r_X10_sum r_X10_product r_X10_factor σ = some o → va_P D vwCl (wd Y E σ 0 (LM ++ X)) H → va_S (AF E (LM ++ X).length s.heap.size) s.heap H locs → lv_has ls 2 [] → W p l e (rmw (dd + 1 + 10) (40 * (dd + 1) + 183) o) s m args below meth c H locs 0 0 (QwV below args s (LM ++ X) Y D E o) (F0 m 258 ls []) := by
  intro σ H locs ls h hP hS hl
  unfold f_X10_factor_258 at h
  obtain ⟨hC, hb, hml, hr, hlk, hD, hSW⟩ := id hF
  have hx := hC.1
  exact x_vretW hF hP hS h dX10_factor_258

def f_X10_factor_92 (r_X10_expression : Sta → Option ((Unit ⊕ (Int32 × Int32)) × Sta)) (r_X10_both : Sta → Option ((Unit ⊕ (Int32 × Int32)) × Sta)) (r_X10_relation : Sta → Option ((Unit ⊕ (Int32 × Int32)) × Sta)) (r_X10_sum : Sta → Option ((Unit ⊕ (Int32 × Int32)) × Sta)) (r_X10_product : Sta → Option ((Unit ⊕ (Int32 × Int32)) × Sta)) (r_X10_factor : Sta → Option ((Unit ⊕ (Int32 × Int32)) × Sta)) (s0 : Int32) (σ : Sta) : Option ((Unit ⊕ (Int32 × Int32)) × Sta) :=
  bnw (f_X10_deeper σ) (fun _ σ2 =>
  bnw (f_X10_take σ2) (fun _ σ5 =>
  bnw (r_X10_factor σ5) (fun _ σ8 =>
  lt (sI σ8 31 ((gI σ8 31) - 1)) (fun σ10 =>
  bnd (f_X10_emit s0 0 σ10) (fun _ σ12 =>
  f_X10_factor_258 r_X10_expression r_X10_both r_X10_relation r_X10_sum r_X10_product r_X10_factor σ12)))))
set_option maxHeartbeats 4000000 in
set_option maxRecDepth 100000 in
theorem t_X10_factor_92 {l : Launch} {D : va_G} {Y : CYs} {E : Nat → Nat} {X : List Dsc} (hX : Lok (LM ++ X)) {p : Program} {e : Env} {s : State} {m : MethodId} {args : Array Value} {below : List Frame} {meth : Method} {c : Code} {r_X10_expression : Sta → Option ((Unit ⊕ (Int32 × Int32)) × Sta)} {r_X10_both : Sta → Option ((Unit ⊕ (Int32 × Int32)) × Sta)} {r_X10_relation : Sta → Option ((Unit ⊕ (Int32 × Int32)) × Sta)} {r_X10_sum : Sta → Option ((Unit ⊕ (Int32 × Int32)) × Sta)} {r_X10_product : Sta → Option ((Unit ⊕ (Int32 × Int32)) × Sta)} {r_X10_factor : Sta → Option ((Unit ⊕ (Int32 × Int32)) × Sta)} {dd : Nat} (hr_X10_expression : ∀ (σ : Sta) (o : (Unit ⊕ (Int32 × Int32)) × Sta), r_X10_expression σ = some o → MWV l yX10_expression (Cond.code yX10_expression cX10_expression 1 none :: gW) (dd + 10) (40 * dd + 183) (LM ++ X) Y D E [.ref (E 0)] σ o) (hr_X10_both : ∀ (σ : Sta) (o : (Unit ⊕ (Int32 × Int32)) × Sta), r_X10_both σ = some o → MWV l yX10_both (Cond.code yX10_both cX10_both 1 none :: gW) (dd + 10) (40 * dd + 183) (LM ++ X) Y D E [.ref (E 0)] σ o) (hr_X10_relation : ∀ (σ : Sta) (o : (Unit ⊕ (Int32 × Int32)) × Sta), r_X10_relation σ = some o → MWV l yX10_relation (Cond.code yX10_relation cX10_relation 2 none :: gW) (dd + 10) (40 * dd + 183) (LM ++ X) Y D E [.ref (E 0)] σ o) (hr_X10_sum : ∀ (σ : Sta) (o : (Unit ⊕ (Int32 × Int32)) × Sta), r_X10_sum σ = some o → MWV l yX10_sum (Cond.code yX10_sum cX10_sum 2 none :: gW) (dd + 10) (40 * dd + 183) (LM ++ X) Y D E [.ref (E 0)] σ o) (hr_X10_product : ∀ (σ : Sta) (o : (Unit ⊕ (Int32 × Int32)) × Sta), r_X10_product σ = some o → MWV l yX10_product (Cond.code yX10_product cX10_product 2 none :: gW) (dd + 10) (40 * dd + 183) (LM ++ X) Y D E [.ref (E 0)] σ o) (hr_X10_factor : ∀ (σ : Sta) (o : (Unit ⊕ (Int32 × Int32)) × Sta), r_X10_factor σ = some o → MWV l yX10_factor (Cond.code yX10_factor cX10_factor 2 none :: gW) (dd + 10) (40 * dd + 183) (LM ++ X) Y D E [.ref (E 0)] σ o) (hF : Fr p s m args meth c RX10 cX10_factor 2 none D Y E (LM ++ X)) {o : (Unit ⊕ (Int32 × Int32)) × Sta} (ht : l.stackTraces = false) (htab : ∀ X u, o = (.inr X, u) → ∀ x ∈ c.exceptionTable.toList, False) : ∀ (s0 : Int32) (σ : Sta) (H : Heap) (locs : List Loc) (ls : Array Slot), f_X10_factor_92 r_X10_expression r_X10_both r_X10_relation r_X10_sum r_X10_product r_X10_factor s0 σ = some o → va_P D vwCl (wd Y E σ 0 (LM ++ X)) H → va_S (AF E (LM ++ X).length s.heap.size) s.heap H locs → lv_has ls 2 [(0, .ref (E 0))] → W p l e (rmw (dd + 1 + 10) (40 * (dd + 1) + 183) o) s m args below meth c H locs 0 0 (QwV below args s (LM ++ X) Y D E o) (F0 m 92 ls [.int s0]) := by
  intro s0 σ H locs ls h hP hS hl
  unfold f_X10_factor_92 at h
  obtain ⟨hC, hb, hml, hr, hlk, hD, hSW⟩ := id hF
  have hx := hC.1
  refine lv_istore_n (lv' := [(1, .int s0), (0, .ref (E 0))]) hx hb dX10_factor_92 rfl hl (by decide) rfl (fun ls hl => ?_)
  refine lv_aload_n hx hb dX10_factor_93 rfl (lv_at hl 1 rfl) ?_
  rcases of_bnw h with ⟨r1, σ2, g3, h⟩ | ⟨Xx, σ2, g3, rfl⟩
  rotate_left
  · exact x_VTw (As := []) (rest := []) hF hl hP hS (c_X10_deeper hX ht g3) (cw_X10_277 hC rfl rfl ⟨by show 7 + 1 ≤ dd + 1 + 10; omega, by show 8 + (1 + 11) + (122) ≤ 40 * (dd + 1) + 183; omega⟩) (lm_0 X) rfl rfl rfl (Nat.le_of_ble_eq_true rfl) dX10_factor_94 ⟨Nat.le_refl _, Nat.le_refl _⟩ (htab _ _ rfl)
  refine x_VV (As := []) (rest := []) hF hl hP hS (c_X10_deeper hX ht g3) (cw_X10_277 hC rfl rfl ⟨by show 7 + 1 ≤ dd + 1 + 10; omega, by show 8 + (1 + 11) + (122) ≤ 40 * (dd + 1) + 183; omega⟩) (lm_0 X) rfl rfl rfl (Nat.le_of_ble_eq_true rfl) dX10_factor_94 ⟨Nat.zero_le _, Nat.zero_le _⟩ (fun H locs hP hS => ?_)
  refine lv_aload_n hx hb dX10_factor_97 rfl (lv_at hl 1 rfl) ?_
  rcases of_bnw h with ⟨r4, σ5, g6, h⟩ | ⟨Xx, σ5, g6, rfl⟩
  rotate_left
  · exact x_VTw (As := []) (rest := []) hF hl hP hS (c_X10_take hX ht g6) (cw_X10_241 hC rfl rfl ⟨by show 7 + 1 ≤ dd + 1 + 10; omega, by show 8 + (1 + 11) + (122) ≤ 40 * (dd + 1) + 183; omega⟩) (lm_0 X) rfl rfl rfl (Nat.le_of_ble_eq_true rfl) dX10_factor_98 ⟨Nat.le_refl _, Nat.le_refl _⟩ (htab _ _ rfl)
  refine x_VV (As := []) (rest := []) hF hl hP hS (c_X10_take hX ht g6) (cw_X10_241 hC rfl rfl ⟨by show 7 + 1 ≤ dd + 1 + 10; omega, by show 8 + (1 + 11) + (122) ≤ 40 * (dd + 1) + 183; omega⟩) (lm_0 X) rfl rfl rfl (Nat.le_of_ble_eq_true rfl) dX10_factor_98 ⟨Nat.zero_le _, Nat.zero_le _⟩ (fun H locs hP hS => ?_)
  refine lv_aload_n hx hb dX10_factor_101 rfl (lv_at hl 1 rfl) ?_
  rcases of_bnw h with ⟨r7, σ8, g9, h⟩ | ⟨Xx, σ8, g9, rfl⟩
  rotate_left
  · exact x_VTw (As := []) (rest := []) hF hl hP hS (hr_X10_factor _ _ g9) (cw_X10_266 hC rfl rfl ⟨by show dd + 10 + 1 ≤ dd + 1 + 10; omega, by show 8 + (2 + 11) + (40 * dd + 183) ≤ 40 * (dd + 1) + 183; omega⟩) (lm_0 X) rfl rfl rfl (Nat.le_of_ble_eq_true rfl) dX10_factor_102 ⟨Nat.le_refl _, Nat.le_refl _⟩ (htab _ _ rfl)
  refine x_VV (As := []) (rest := []) hF hl hP hS (hr_X10_factor _ _ g9) (cw_X10_266 hC rfl rfl ⟨by show dd + 10 + 1 ≤ dd + 1 + 10; omega, by show 8 + (2 + 11) + (40 * dd + 183) ≤ 40 * (dd + 1) + 183; omega⟩) (lm_0 X) rfl rfl rfl (Nat.le_of_ble_eq_true rfl) dX10_factor_102 ⟨Nat.zero_le _, Nat.zero_le _⟩ (fun H locs hP hS => ?_)
  refine lv_aload_n hx hb dX10_factor_105 rfl (lv_at hl 1 rfl) ?_
  refine lv_dup hx hb dX10_factor_106 rfl ?_
  refine gf_X10_244 hC hb hP dX10_factor_107 ?_
  refine lv_iconst (v := 1) hx hb dX10_factor_110 (by decide) ?_
  refine lv_isub hx hb dX10_factor_111 ?_
  refine pf_X10_244 hX hC hb hP hD hS dX10_factor_112 (fun H locs σ10 eσ10 hP hS => ?_)
  have h := of_lt h eσ10
  refine lv_aload_n hx hb dX10_factor_115 rfl (lv_at hl 1 rfl) ?_
  refine lv_iload_n hx hb dX10_factor_116 rfl (lv_at hl 0 rfl) ?_
  refine lv_lconst (v := 0) hx hb dX10_factor_117 (by decide) ?_
  obtain ⟨r11, σ12, g13, h⟩ := of_bnd h
  refine x_VV (As := [.int s0, .long 0]) (rest := []) hF hl hP hS (c_X10_emit hX g13) (cw_X10_250 hC rfl rfl ⟨by show 0 + 1 ≤ dd + 1 + 10; omega, by show 8 + (4 + 11) + (0) ≤ 40 * (dd + 1) + 183; omega⟩) (lm_0 X) rfl rfl rfl (Nat.le_of_ble_eq_true rfl) dX10_factor_118 ⟨Nat.zero_le _, Nat.zero_le _⟩ (fun H locs hP hS => ?_)
  refine lv_goto (tgt := 258) hx hb dX10_factor_121 (by decide) ?_
  exact t_X10_factor_258 hX  hr_X10_expression hr_X10_both hr_X10_relation hr_X10_sum hr_X10_product hr_X10_factor hF ht htab σ12 _ _ _ h hP hS (lv_sub hl [] rfl)

def f_X10_factor_76 (r_X10_expression : Sta → Option ((Unit ⊕ (Int32 × Int32)) × Sta)) (r_X10_both : Sta → Option ((Unit ⊕ (Int32 × Int32)) × Sta)) (r_X10_relation : Sta → Option ((Unit ⊕ (Int32 × Int32)) × Sta)) (r_X10_sum : Sta → Option ((Unit ⊕ (Int32 × Int32)) × Sta)) (r_X10_product : Sta → Option ((Unit ⊕ (Int32 × Int32)) × Sta)) (r_X10_factor : Sta → Option ((Unit ⊕ (Int32 × Int32)) × Sta)) (σ : Sta) : Option ((Unit ⊕ (Int32 × Int32)) × Sta) :=
  bnd (f_X10_is 107 σ) (fun r1 σ2 =>
  if r1 = 0 then
    f_X10_factor_92 r_X10_expression r_X10_both r_X10_relation r_X10_sum r_X10_product r_X10_factor 40 σ2
  else
    f_X10_factor_92 r_X10_expression r_X10_both r_X10_relation r_X10_sum r_X10_product r_X10_factor 41 σ2)
set_option maxHeartbeats 4000000 in
set_option maxRecDepth 100000 in
theorem t_X10_factor_76 {l : Launch} {D : va_G} {Y : CYs} {E : Nat → Nat} {X : List Dsc} (hX : Lok (LM ++ X)) {p : Program} {e : Env} {s : State} {m : MethodId} {args : Array Value} {below : List Frame} {meth : Method} {c : Code} {r_X10_expression : Sta → Option ((Unit ⊕ (Int32 × Int32)) × Sta)} {r_X10_both : Sta → Option ((Unit ⊕ (Int32 × Int32)) × Sta)} {r_X10_relation : Sta → Option ((Unit ⊕ (Int32 × Int32)) × Sta)} {r_X10_sum : Sta → Option ((Unit ⊕ (Int32 × Int32)) × Sta)} {r_X10_product : Sta → Option ((Unit ⊕ (Int32 × Int32)) × Sta)} {r_X10_factor : Sta → Option ((Unit ⊕ (Int32 × Int32)) × Sta)} {dd : Nat} (hr_X10_expression : ∀ (σ : Sta) (o : (Unit ⊕ (Int32 × Int32)) × Sta), r_X10_expression σ = some o → MWV l yX10_expression (Cond.code yX10_expression cX10_expression 1 none :: gW) (dd + 10) (40 * dd + 183) (LM ++ X) Y D E [.ref (E 0)] σ o) (hr_X10_both : ∀ (σ : Sta) (o : (Unit ⊕ (Int32 × Int32)) × Sta), r_X10_both σ = some o → MWV l yX10_both (Cond.code yX10_both cX10_both 1 none :: gW) (dd + 10) (40 * dd + 183) (LM ++ X) Y D E [.ref (E 0)] σ o) (hr_X10_relation : ∀ (σ : Sta) (o : (Unit ⊕ (Int32 × Int32)) × Sta), r_X10_relation σ = some o → MWV l yX10_relation (Cond.code yX10_relation cX10_relation 2 none :: gW) (dd + 10) (40 * dd + 183) (LM ++ X) Y D E [.ref (E 0)] σ o) (hr_X10_sum : ∀ (σ : Sta) (o : (Unit ⊕ (Int32 × Int32)) × Sta), r_X10_sum σ = some o → MWV l yX10_sum (Cond.code yX10_sum cX10_sum 2 none :: gW) (dd + 10) (40 * dd + 183) (LM ++ X) Y D E [.ref (E 0)] σ o) (hr_X10_product : ∀ (σ : Sta) (o : (Unit ⊕ (Int32 × Int32)) × Sta), r_X10_product σ = some o → MWV l yX10_product (Cond.code yX10_product cX10_product 2 none :: gW) (dd + 10) (40 * dd + 183) (LM ++ X) Y D E [.ref (E 0)] σ o) (hr_X10_factor : ∀ (σ : Sta) (o : (Unit ⊕ (Int32 × Int32)) × Sta), r_X10_factor σ = some o → MWV l yX10_factor (Cond.code yX10_factor cX10_factor 2 none :: gW) (dd + 10) (40 * dd + 183) (LM ++ X) Y D E [.ref (E 0)] σ o) (hF : Fr p s m args meth c RX10 cX10_factor 2 none D Y E (LM ++ X)) {o : (Unit ⊕ (Int32 × Int32)) × Sta} (ht : l.stackTraces = false) (htab : ∀ X u, o = (.inr X, u) → ∀ x ∈ c.exceptionTable.toList, False) : ∀ (σ : Sta) (H : Heap) (locs : List Loc) (ls : Array Slot), f_X10_factor_76 r_X10_expression r_X10_both r_X10_relation r_X10_sum r_X10_product r_X10_factor σ = some o → va_P D vwCl (wd Y E σ 0 (LM ++ X)) H → va_S (AF E (LM ++ X).length s.heap.size) s.heap H locs → lv_has ls 2 [(0, .ref (E 0))] → W p l e (rmw (dd + 1 + 10) (40 * (dd + 1) + 183) o) s m args below meth c H locs 0 0 (QwV below args s (LM ++ X) Y D E o) (F0 m 76 ls []) := by
  intro σ H locs ls h hP hS hl
  unfold f_X10_factor_76 at h
  obtain ⟨hC, hb, hml, hr, hlk, hD, hSW⟩ := id hF
  have hx := hC.1
  refine lv_aload_n hx hb dX10_factor_76 rfl (lv_at hl 0 rfl) ?_
  refine lv_bipush (v := 107) hx hb dX10_factor_77 (by decide) ?_
  obtain ⟨r1, σ2, g3, h⟩ := of_bnd h
  refine x_VI (As := [.int 107]) (rest := []) hF hl hP hS (c_X10_is hX g3) (cw_X10_238 hC rfl rfl ⟨by show 0 + 1 ≤ dd + 1 + 10; omega, by show 8 + (2 + 11) + (0) ≤ 40 * (dd + 1) + 183; omega⟩) (lm_0 X) rfl rfl rfl (Nat.le_of_ble_eq_true rfl) dX10_factor_79 ⟨Nat.zero_le _, Nat.zero_le _⟩ (fun H locs hP hS => ?_)
  refine lv_if_eq (tgt := 90) hx hb dX10_factor_82 (by decide) (fun c4 => ?_) (fun c4 => ?_)
  · have h := of_t h c4
    refine lv_bipush (v := 40) hx hb dX10_factor_90 (by decide) ?_
    exact t_X10_factor_92 hX  hr_X10_expression hr_X10_both hr_X10_relation hr_X10_sum hr_X10_product hr_X10_factor hF ht htab 40 σ2 _ _ _ h hP hS (lv_sub hl [0] rfl)
  · have h := of_f h c4
    refine lv_bipush (v := 41) hx hb dX10_factor_85 (by decide) ?_
    refine lv_goto (tgt := 92) hx hb dX10_factor_87 (by decide) ?_
    exact t_X10_factor_92 hX  hr_X10_expression hr_X10_both hr_X10_relation hr_X10_sum hr_X10_product hr_X10_factor hF ht htab 41 σ2 _ _ _ h hP hS (lv_sub hl [0] rfl)

def f_X10_factor_217 (r_X10_expression : Sta → Option ((Unit ⊕ (Int32 × Int32)) × Sta)) (r_X10_both : Sta → Option ((Unit ⊕ (Int32 × Int32)) × Sta)) (r_X10_relation : Sta → Option ((Unit ⊕ (Int32 × Int32)) × Sta)) (r_X10_sum : Sta → Option ((Unit ⊕ (Int32 × Int32)) × Sta)) (r_X10_product : Sta → Option ((Unit ⊕ (Int32 × Int32)) × Sta)) (r_X10_factor : Sta → Option ((Unit ⊕ (Int32 × Int32)) × Sta)) (s0 : Int32) (σ : Sta) : Option ((Unit ⊕ (Int32 × Int32)) × Sta) :=
  bnw (f_X10_take σ) (fun _ σ2 =>
  bnw (f_X10_open σ2) (fun _ σ5 =>
  bnw (r_X10_expression σ5) (fun _ σ8 =>
  bnw (f_X10_take_ 104 σ8) (fun _ σ11 =>
  bnw (r_X10_expression σ11) (fun _ σ14 =>
  bnw (f_X10_close σ14) (fun _ σ17 =>
  bnd (f_X10_emit s0 0 σ17) (fun _ σ20 =>
  f_X10_factor_258 r_X10_expression r_X10_both r_X10_relation r_X10_sum r_X10_product r_X10_factor σ20)))))))
set_option maxHeartbeats 4000000 in
set_option maxRecDepth 100000 in
theorem t_X10_factor_217 {l : Launch} {D : va_G} {Y : CYs} {E : Nat → Nat} {X : List Dsc} (hX : Lok (LM ++ X)) {p : Program} {e : Env} {s : State} {m : MethodId} {args : Array Value} {below : List Frame} {meth : Method} {c : Code} {r_X10_expression : Sta → Option ((Unit ⊕ (Int32 × Int32)) × Sta)} {r_X10_both : Sta → Option ((Unit ⊕ (Int32 × Int32)) × Sta)} {r_X10_relation : Sta → Option ((Unit ⊕ (Int32 × Int32)) × Sta)} {r_X10_sum : Sta → Option ((Unit ⊕ (Int32 × Int32)) × Sta)} {r_X10_product : Sta → Option ((Unit ⊕ (Int32 × Int32)) × Sta)} {r_X10_factor : Sta → Option ((Unit ⊕ (Int32 × Int32)) × Sta)} {dd : Nat} (hr_X10_expression : ∀ (σ : Sta) (o : (Unit ⊕ (Int32 × Int32)) × Sta), r_X10_expression σ = some o → MWV l yX10_expression (Cond.code yX10_expression cX10_expression 1 none :: gW) (dd + 10) (40 * dd + 183) (LM ++ X) Y D E [.ref (E 0)] σ o) (hr_X10_both : ∀ (σ : Sta) (o : (Unit ⊕ (Int32 × Int32)) × Sta), r_X10_both σ = some o → MWV l yX10_both (Cond.code yX10_both cX10_both 1 none :: gW) (dd + 10) (40 * dd + 183) (LM ++ X) Y D E [.ref (E 0)] σ o) (hr_X10_relation : ∀ (σ : Sta) (o : (Unit ⊕ (Int32 × Int32)) × Sta), r_X10_relation σ = some o → MWV l yX10_relation (Cond.code yX10_relation cX10_relation 2 none :: gW) (dd + 10) (40 * dd + 183) (LM ++ X) Y D E [.ref (E 0)] σ o) (hr_X10_sum : ∀ (σ : Sta) (o : (Unit ⊕ (Int32 × Int32)) × Sta), r_X10_sum σ = some o → MWV l yX10_sum (Cond.code yX10_sum cX10_sum 2 none :: gW) (dd + 10) (40 * dd + 183) (LM ++ X) Y D E [.ref (E 0)] σ o) (hr_X10_product : ∀ (σ : Sta) (o : (Unit ⊕ (Int32 × Int32)) × Sta), r_X10_product σ = some o → MWV l yX10_product (Cond.code yX10_product cX10_product 2 none :: gW) (dd + 10) (40 * dd + 183) (LM ++ X) Y D E [.ref (E 0)] σ o) (hr_X10_factor : ∀ (σ : Sta) (o : (Unit ⊕ (Int32 × Int32)) × Sta), r_X10_factor σ = some o → MWV l yX10_factor (Cond.code yX10_factor cX10_factor 2 none :: gW) (dd + 10) (40 * dd + 183) (LM ++ X) Y D E [.ref (E 0)] σ o) (hF : Fr p s m args meth c RX10 cX10_factor 2 none D Y E (LM ++ X)) {o : (Unit ⊕ (Int32 × Int32)) × Sta} (ht : l.stackTraces = false) (htab : ∀ X u, o = (.inr X, u) → ∀ x ∈ c.exceptionTable.toList, False) : ∀ (s0 : Int32) (σ : Sta) (H : Heap) (locs : List Loc) (ls : Array Slot), f_X10_factor_217 r_X10_expression r_X10_both r_X10_relation r_X10_sum r_X10_product r_X10_factor s0 σ = some o → va_P D vwCl (wd Y E σ 0 (LM ++ X)) H → va_S (AF E (LM ++ X).length s.heap.size) s.heap H locs → lv_has ls 2 [(0, .ref (E 0))] → W p l e (rmw (dd + 1 + 10) (40 * (dd + 1) + 183) o) s m args below meth c H locs 0 0 (QwV below args s (LM ++ X) Y D E o) (F0 m 217 ls [.int s0]) := by
  intro s0 σ H locs ls h hP hS hl
  unfold f_X10_factor_217 at h
  obtain ⟨hC, hb, hml, hr, hlk, hD, hSW⟩ := id hF
  have hx := hC.1
  refine lv_istore_n (lv' := [(1, .int s0), (0, .ref (E 0))]) hx hb dX10_factor_217 rfl hl (by decide) rfl (fun ls hl => ?_)
  refine lv_aload_n hx hb dX10_factor_218 rfl (lv_at hl 1 rfl) ?_
  rcases of_bnw h with ⟨r1, σ2, g3, h⟩ | ⟨Xx, σ2, g3, rfl⟩
  rotate_left
  · exact x_VTw (As := []) (rest := []) hF hl hP hS (c_X10_take hX ht g3) (cw_X10_241 hC rfl rfl ⟨by show 7 + 1 ≤ dd + 1 + 10; omega, by show 8 + (1 + 11) + (122) ≤ 40 * (dd + 1) + 183; omega⟩) (lm_0 X) rfl rfl rfl (Nat.le_of_ble_eq_true rfl) dX10_factor_219 ⟨Nat.le_refl _, Nat.le_refl _⟩ (htab _ _ rfl)
  refine x_VV (As := []) (rest := []) hF hl hP hS (c_X10_take hX ht g3) (cw_X10_241 hC rfl rfl ⟨by show 7 + 1 ≤ dd + 1 + 10; omega, by show 8 + (1 + 11) + (122) ≤ 40 * (dd + 1) + 183; omega⟩) (lm_0 X) rfl rfl rfl (Nat.le_of_ble_eq_true rfl) dX10_factor_219 ⟨Nat.zero_le _, Nat.zero_le _⟩ (fun H locs hP hS => ?_)
  refine lv_aload_n hx hb dX10_factor_222 rfl (lv_at hl 1 rfl) ?_
  rcases of_bnw h with ⟨r4, σ5, g6, h⟩ | ⟨Xx, σ5, g6, rfl⟩
  rotate_left
  · exact x_VTw (As := []) (rest := []) hF hl hP hS (c_X10_open hX ht g6) (cw_X10_280 hC rfl rfl ⟨by show 8 + 1 ≤ dd + 1 + 10; omega, by show 8 + (1 + 11) + (142) ≤ 40 * (dd + 1) + 183; omega⟩) (lm_0 X) rfl rfl rfl (Nat.le_of_ble_eq_true rfl) dX10_factor_223 ⟨Nat.le_refl _, Nat.le_refl _⟩ (htab _ _ rfl)
  refine x_VV (As := []) (rest := []) hF hl hP hS (c_X10_open hX ht g6) (cw_X10_280 hC rfl rfl ⟨by show 8 + 1 ≤ dd + 1 + 10; omega, by show 8 + (1 + 11) + (142) ≤ 40 * (dd + 1) + 183; omega⟩) (lm_0 X) rfl rfl rfl (Nat.le_of_ble_eq_true rfl) dX10_factor_223 ⟨Nat.zero_le _, Nat.zero_le _⟩ (fun H locs hP hS => ?_)
  refine lv_aload_n hx hb dX10_factor_226 rfl (lv_at hl 1 rfl) ?_
  rcases of_bnw h with ⟨r7, σ8, g9, h⟩ | ⟨Xx, σ8, g9, rfl⟩
  rotate_left
  · exact x_VTw (As := []) (rest := []) hF hl hP hS (hr_X10_expression _ _ g9) (cw_X10_247 hC rfl rfl ⟨by show dd + 10 + 1 ≤ dd + 1 + 10; omega, by show 8 + (1 + 11) + (40 * dd + 183) ≤ 40 * (dd + 1) + 183; omega⟩) (lm_0 X) rfl rfl rfl (Nat.le_of_ble_eq_true rfl) dX10_factor_227 ⟨Nat.le_refl _, Nat.le_refl _⟩ (htab _ _ rfl)
  refine x_VV (As := []) (rest := []) hF hl hP hS (hr_X10_expression _ _ g9) (cw_X10_247 hC rfl rfl ⟨by show dd + 10 + 1 ≤ dd + 1 + 10; omega, by show 8 + (1 + 11) + (40 * dd + 183) ≤ 40 * (dd + 1) + 183; omega⟩) (lm_0 X) rfl rfl rfl (Nat.le_of_ble_eq_true rfl) dX10_factor_227 ⟨Nat.zero_le _, Nat.zero_le _⟩ (fun H locs hP hS => ?_)
  refine lv_aload_n hx hb dX10_factor_230 rfl (lv_at hl 1 rfl) ?_
  refine lv_bipush (v := 104) hx hb dX10_factor_231 (by decide) ?_
  rcases of_bnw h with ⟨r10, σ11, g12, h⟩ | ⟨Xx, σ11, g12, rfl⟩
  rotate_left
  · exact x_VTw (As := [.int 104]) (rest := []) hF hl hP hS (c_X10_take_ hX ht g12) (cw_X10_286 hC rfl rfl ⟨by show 8 + 1 ≤ dd + 1 + 10; omega, by show 8 + (2 + 11) + (142) ≤ 40 * (dd + 1) + 183; omega⟩) (lm_0 X) rfl rfl rfl (Nat.le_of_ble_eq_true rfl) dX10_factor_233 ⟨Nat.le_refl _, Nat.le_refl _⟩ (htab _ _ rfl)
  refine x_VV (As := [.int 104]) (rest := []) hF hl hP hS (c_X10_take_ hX ht g12) (cw_X10_286 hC rfl rfl ⟨by show 8 + 1 ≤ dd + 1 + 10; omega, by show 8 + (2 + 11) + (142) ≤ 40 * (dd + 1) + 183; omega⟩) (lm_0 X) rfl rfl rfl (Nat.le_of_ble_eq_true rfl) dX10_factor_233 ⟨Nat.zero_le _, Nat.zero_le _⟩ (fun H locs hP hS => ?_)
  refine lv_aload_n hx hb dX10_factor_236 rfl (lv_at hl 1 rfl) ?_
  rcases of_bnw h with ⟨r13, σ14, g15, h⟩ | ⟨Xx, σ14, g15, rfl⟩
  rotate_left
  · exact x_VTw (As := []) (rest := []) hF hl hP hS (hr_X10_expression _ _ g15) (cw_X10_247 hC rfl rfl ⟨by show dd + 10 + 1 ≤ dd + 1 + 10; omega, by show 8 + (1 + 11) + (40 * dd + 183) ≤ 40 * (dd + 1) + 183; omega⟩) (lm_0 X) rfl rfl rfl (Nat.le_of_ble_eq_true rfl) dX10_factor_237 ⟨Nat.le_refl _, Nat.le_refl _⟩ (htab _ _ rfl)
  refine x_VV (As := []) (rest := []) hF hl hP hS (hr_X10_expression _ _ g15) (cw_X10_247 hC rfl rfl ⟨by show dd + 10 + 1 ≤ dd + 1 + 10; omega, by show 8 + (1 + 11) + (40 * dd + 183) ≤ 40 * (dd + 1) + 183; omega⟩) (lm_0 X) rfl rfl rfl (Nat.le_of_ble_eq_true rfl) dX10_factor_237 ⟨Nat.zero_le _, Nat.zero_le _⟩ (fun H locs hP hS => ?_)
  refine lv_aload_n hx hb dX10_factor_240 rfl (lv_at hl 1 rfl) ?_
  rcases of_bnw h with ⟨r16, σ17, g18, h⟩ | ⟨Xx, σ17, g18, rfl⟩
  rotate_left
  · exact x_VTw (As := []) (rest := []) hF hl hP hS (c_X10_close hX ht g18) (cw_X10_283 hC rfl rfl ⟨by show 9 + 1 ≤ dd + 1 + 10; omega, by show 8 + (1 + 11) + (163) ≤ 40 * (dd + 1) + 183; omega⟩) (lm_0 X) rfl rfl rfl (Nat.le_of_ble_eq_true rfl) dX10_factor_241 ⟨Nat.le_refl _, Nat.le_refl _⟩ (htab _ _ rfl)
  refine x_VV (As := []) (rest := []) hF hl hP hS (c_X10_close hX ht g18) (cw_X10_283 hC rfl rfl ⟨by show 9 + 1 ≤ dd + 1 + 10; omega, by show 8 + (1 + 11) + (163) ≤ 40 * (dd + 1) + 183; omega⟩) (lm_0 X) rfl rfl rfl (Nat.le_of_ble_eq_true rfl) dX10_factor_241 ⟨Nat.zero_le _, Nat.zero_le _⟩ (fun H locs hP hS => ?_)
  refine lv_aload_n hx hb dX10_factor_244 rfl (lv_at hl 1 rfl) ?_
  refine lv_iload_n hx hb dX10_factor_245 rfl (lv_at hl 0 rfl) ?_
  refine lv_lconst (v := 0) hx hb dX10_factor_246 (by decide) ?_
  obtain ⟨r19, σ20, g21, h⟩ := of_bnd h
  refine x_VV (As := [.int s0, .long 0]) (rest := []) hF hl hP hS (c_X10_emit hX g21) (cw_X10_250 hC rfl rfl ⟨by show 0 + 1 ≤ dd + 1 + 10; omega, by show 8 + (4 + 11) + (0) ≤ 40 * (dd + 1) + 183; omega⟩) (lm_0 X) rfl rfl rfl (Nat.le_of_ble_eq_true rfl) dX10_factor_247 ⟨Nat.zero_le _, Nat.zero_le _⟩ (fun H locs hP hS => ?_)
  refine lv_goto (tgt := 258) hx hb dX10_factor_250 (by decide) ?_
  exact t_X10_factor_258 hX  hr_X10_expression hr_X10_both hr_X10_relation hr_X10_sum hr_X10_product hr_X10_factor hF ht htab σ20 _ _ _ h hP hS (lv_sub hl [] rfl)

def f_X10_factor_201 (r_X10_expression : Sta → Option ((Unit ⊕ (Int32 × Int32)) × Sta)) (r_X10_both : Sta → Option ((Unit ⊕ (Int32 × Int32)) × Sta)) (r_X10_relation : Sta → Option ((Unit ⊕ (Int32 × Int32)) × Sta)) (r_X10_sum : Sta → Option ((Unit ⊕ (Int32 × Int32)) × Sta)) (r_X10_product : Sta → Option ((Unit ⊕ (Int32 × Int32)) × Sta)) (r_X10_factor : Sta → Option ((Unit ⊕ (Int32 × Int32)) × Sta)) (σ : Sta) : Option ((Unit ⊕ (Int32 × Int32)) × Sta) :=
  bnd (f_X10_is 14 σ) (fun r1 σ2 =>
  if r1 = 0 then
    f_X10_factor_217 r_X10_expression r_X10_both r_X10_relation r_X10_sum r_X10_product r_X10_factor 33 σ2
  else
    f_X10_factor_217 r_X10_expression r_X10_both r_X10_relation r_X10_sum r_X10_product r_X10_factor 32 σ2)
set_option maxHeartbeats 4000000 in
set_option maxRecDepth 100000 in
theorem t_X10_factor_201 {l : Launch} {D : va_G} {Y : CYs} {E : Nat → Nat} {X : List Dsc} (hX : Lok (LM ++ X)) {p : Program} {e : Env} {s : State} {m : MethodId} {args : Array Value} {below : List Frame} {meth : Method} {c : Code} {r_X10_expression : Sta → Option ((Unit ⊕ (Int32 × Int32)) × Sta)} {r_X10_both : Sta → Option ((Unit ⊕ (Int32 × Int32)) × Sta)} {r_X10_relation : Sta → Option ((Unit ⊕ (Int32 × Int32)) × Sta)} {r_X10_sum : Sta → Option ((Unit ⊕ (Int32 × Int32)) × Sta)} {r_X10_product : Sta → Option ((Unit ⊕ (Int32 × Int32)) × Sta)} {r_X10_factor : Sta → Option ((Unit ⊕ (Int32 × Int32)) × Sta)} {dd : Nat} (hr_X10_expression : ∀ (σ : Sta) (o : (Unit ⊕ (Int32 × Int32)) × Sta), r_X10_expression σ = some o → MWV l yX10_expression (Cond.code yX10_expression cX10_expression 1 none :: gW) (dd + 10) (40 * dd + 183) (LM ++ X) Y D E [.ref (E 0)] σ o) (hr_X10_both : ∀ (σ : Sta) (o : (Unit ⊕ (Int32 × Int32)) × Sta), r_X10_both σ = some o → MWV l yX10_both (Cond.code yX10_both cX10_both 1 none :: gW) (dd + 10) (40 * dd + 183) (LM ++ X) Y D E [.ref (E 0)] σ o) (hr_X10_relation : ∀ (σ : Sta) (o : (Unit ⊕ (Int32 × Int32)) × Sta), r_X10_relation σ = some o → MWV l yX10_relation (Cond.code yX10_relation cX10_relation 2 none :: gW) (dd + 10) (40 * dd + 183) (LM ++ X) Y D E [.ref (E 0)] σ o) (hr_X10_sum : ∀ (σ : Sta) (o : (Unit ⊕ (Int32 × Int32)) × Sta), r_X10_sum σ = some o → MWV l yX10_sum (Cond.code yX10_sum cX10_sum 2 none :: gW) (dd + 10) (40 * dd + 183) (LM ++ X) Y D E [.ref (E 0)] σ o) (hr_X10_product : ∀ (σ : Sta) (o : (Unit ⊕ (Int32 × Int32)) × Sta), r_X10_product σ = some o → MWV l yX10_product (Cond.code yX10_product cX10_product 2 none :: gW) (dd + 10) (40 * dd + 183) (LM ++ X) Y D E [.ref (E 0)] σ o) (hr_X10_factor : ∀ (σ : Sta) (o : (Unit ⊕ (Int32 × Int32)) × Sta), r_X10_factor σ = some o → MWV l yX10_factor (Cond.code yX10_factor cX10_factor 2 none :: gW) (dd + 10) (40 * dd + 183) (LM ++ X) Y D E [.ref (E 0)] σ o) (hF : Fr p s m args meth c RX10 cX10_factor 2 none D Y E (LM ++ X)) {o : (Unit ⊕ (Int32 × Int32)) × Sta} (ht : l.stackTraces = false) (htab : ∀ X u, o = (.inr X, u) → ∀ x ∈ c.exceptionTable.toList, False) : ∀ (σ : Sta) (H : Heap) (locs : List Loc) (ls : Array Slot), f_X10_factor_201 r_X10_expression r_X10_both r_X10_relation r_X10_sum r_X10_product r_X10_factor σ = some o → va_P D vwCl (wd Y E σ 0 (LM ++ X)) H → va_S (AF E (LM ++ X).length s.heap.size) s.heap H locs → lv_has ls 2 [(0, .ref (E 0))] → W p l e (rmw (dd + 1 + 10) (40 * (dd + 1) + 183) o) s m args below meth c H locs 0 0 (QwV below args s (LM ++ X) Y D E o) (F0 m 201 ls []) := by
  intro σ H locs ls h hP hS hl
  unfold f_X10_factor_201 at h
  obtain ⟨hC, hb, hml, hr, hlk, hD, hSW⟩ := id hF
  have hx := hC.1
  refine lv_aload_n hx hb dX10_factor_201 rfl (lv_at hl 0 rfl) ?_
  refine lv_bipush (v := 14) hx hb dX10_factor_202 (by decide) ?_
  obtain ⟨r1, σ2, g3, h⟩ := of_bnd h
  refine x_VI (As := [.int 14]) (rest := []) hF hl hP hS (c_X10_is hX g3) (cw_X10_238 hC rfl rfl ⟨by show 0 + 1 ≤ dd + 1 + 10; omega, by show 8 + (2 + 11) + (0) ≤ 40 * (dd + 1) + 183; omega⟩) (lm_0 X) rfl rfl rfl (Nat.le_of_ble_eq_true rfl) dX10_factor_204 ⟨Nat.zero_le _, Nat.zero_le _⟩ (fun H locs hP hS => ?_)
  refine lv_if_eq (tgt := 215) hx hb dX10_factor_207 (by decide) (fun c4 => ?_) (fun c4 => ?_)
  · have h := of_t h c4
    refine lv_bipush (v := 33) hx hb dX10_factor_215 (by decide) ?_
    exact t_X10_factor_217 hX  hr_X10_expression hr_X10_both hr_X10_relation hr_X10_sum hr_X10_product hr_X10_factor hF ht htab 33 σ2 _ _ _ h hP hS (lv_sub hl [0] rfl)
  · have h := of_f h c4
    refine lv_bipush (v := 32) hx hb dX10_factor_210 (by decide) ?_
    refine lv_goto (tgt := 217) hx hb dX10_factor_212 (by decide) ?_
    exact t_X10_factor_217 hX  hr_X10_expression hr_X10_both hr_X10_relation hr_X10_sum hr_X10_product hr_X10_factor hF ht htab 32 σ2 _ _ _ h hP hS (lv_sub hl [0] rfl)

def fb_X10_factor (r_X10_expression : Sta → Option ((Unit ⊕ (Int32 × Int32)) × Sta)) (r_X10_both : Sta → Option ((Unit ⊕ (Int32 × Int32)) × Sta)) (r_X10_relation : Sta → Option ((Unit ⊕ (Int32 × Int32)) × Sta)) (r_X10_sum : Sta → Option ((Unit ⊕ (Int32 × Int32)) × Sta)) (r_X10_product : Sta → Option ((Unit ⊕ (Int32 × Int32)) × Sta)) (r_X10_factor : Sta → Option ((Unit ⊕ (Int32 × Int32)) × Sta)) (σ : Sta) : Option ((Unit ⊕ (Int32 × Int32)) × Sta) :=
  bnd (f_X10_is 201 σ) (fun r1 σ2 =>
  if r1 = 0 then
    bnd (f_X10_is 200 σ2) (fun r5 σ6 =>
    if r5 = 0 then
      bnd (f_X10_is 107 σ6) (fun r9 σ10 =>
      if r9 = 0 then
        bnd (f_X10_is 13 σ10) (fun r13 σ14 =>
        if r13 = 0 then
          bnd (f_X10_is 100 σ14) (fun r17 σ18 =>
          if r17 = 0 then
            bnd (f_X10_is 16 σ18) (fun r21 σ22 =>
            if r21 = 0 then
              bnd (f_X10_is 14 σ22) (fun r25 σ26 =>
              if r25 = 0 then
                bnd (f_X10_is 15 σ26) (fun r29 σ30 =>
                if r29 = 0 then
                  bnr (f_X10_wrong σ30) (fun X33 => some (.inr X33, σ30))
                else
                  f_X10_factor_201 r_X10_expression r_X10_both r_X10_relation r_X10_sum r_X10_product r_X10_factor σ30)
              else
                f_X10_factor_201 r_X10_expression r_X10_both r_X10_relation r_X10_sum r_X10_product r_X10_factor σ26)
            else
              bnw (f_X10_take σ22) (fun _ σ37 =>
              bnw (f_X10_open σ37) (fun _ σ40 =>
              bnw (r_X10_expression σ40) (fun _ σ43 =>
              bnw (f_X10_close σ43) (fun _ σ46 =>
              bnd (f_X10_emit 42 0 σ46) (fun _ σ49 =>
              f_X10_factor_258 r_X10_expression r_X10_both r_X10_relation r_X10_sum r_X10_product r_X10_factor σ49))))))
          else
            bnw (f_X10_open σ18) (fun _ σ52 =>
            bnw (r_X10_expression σ52) (fun _ σ55 =>
            bnw (f_X10_close σ55) (fun _ σ58 =>
            f_X10_factor_258 r_X10_expression r_X10_both r_X10_relation r_X10_sum r_X10_product r_X10_factor σ58))))
        else
          f_X10_factor_76 r_X10_expression r_X10_both r_X10_relation r_X10_sum r_X10_product r_X10_factor σ14)
      else
        f_X10_factor_76 r_X10_expression r_X10_both r_X10_relation r_X10_sum r_X10_product r_X10_factor σ10)
    else
      bnw (f_X10_variableHere σ6) (fun r60 σ61 =>
      bnd (f_X10_emit 1 r60.toInt64 σ61) (fun _ σ64 =>
      bnw (f_X10_take σ64) (fun _ σ67 =>
      f_X10_factor_258 r_X10_expression r_X10_both r_X10_relation r_X10_sum r_X10_product r_X10_factor σ67))))
  else
    if gI σ2 29 < 0 ∨ 1501 ≤ ((gI σ2 29).toNatClampNeg) then none else (
    bnd (f_X10_emit 0 (gJ σ2 5 ((gI σ2 29).toNatClampNeg)) σ2) (fun _ σ71 =>
    bnw (f_X10_take σ71) (fun _ σ74 =>
    f_X10_factor_258 r_X10_expression r_X10_both r_X10_relation r_X10_sum r_X10_product r_X10_factor σ74))))
set_option maxHeartbeats 4000000 in
set_option maxRecDepth 100000 in
theorem cb_X10_factor {l : Launch} {D : va_G} {Y : CYs} {E : Nat → Nat} {X : List Dsc} (hX : Lok (LM ++ X)) {r_X10_expression : Sta → Option ((Unit ⊕ (Int32 × Int32)) × Sta)} {r_X10_both : Sta → Option ((Unit ⊕ (Int32 × Int32)) × Sta)} {r_X10_relation : Sta → Option ((Unit ⊕ (Int32 × Int32)) × Sta)} {r_X10_sum : Sta → Option ((Unit ⊕ (Int32 × Int32)) × Sta)} {r_X10_product : Sta → Option ((Unit ⊕ (Int32 × Int32)) × Sta)} {r_X10_factor : Sta → Option ((Unit ⊕ (Int32 × Int32)) × Sta)} {dd : Nat} (hr_X10_expression : ∀ (σ : Sta) (o : (Unit ⊕ (Int32 × Int32)) × Sta), r_X10_expression σ = some o → MWV l yX10_expression (Cond.code yX10_expression cX10_expression 1 none :: gW) (dd + 10) (40 * dd + 183) (LM ++ X) Y D E [.ref (E 0)] σ o) (hr_X10_both : ∀ (σ : Sta) (o : (Unit ⊕ (Int32 × Int32)) × Sta), r_X10_both σ = some o → MWV l yX10_both (Cond.code yX10_both cX10_both 1 none :: gW) (dd + 10) (40 * dd + 183) (LM ++ X) Y D E [.ref (E 0)] σ o) (hr_X10_relation : ∀ (σ : Sta) (o : (Unit ⊕ (Int32 × Int32)) × Sta), r_X10_relation σ = some o → MWV l yX10_relation (Cond.code yX10_relation cX10_relation 2 none :: gW) (dd + 10) (40 * dd + 183) (LM ++ X) Y D E [.ref (E 0)] σ o) (hr_X10_sum : ∀ (σ : Sta) (o : (Unit ⊕ (Int32 × Int32)) × Sta), r_X10_sum σ = some o → MWV l yX10_sum (Cond.code yX10_sum cX10_sum 2 none :: gW) (dd + 10) (40 * dd + 183) (LM ++ X) Y D E [.ref (E 0)] σ o) (hr_X10_product : ∀ (σ : Sta) (o : (Unit ⊕ (Int32 × Int32)) × Sta), r_X10_product σ = some o → MWV l yX10_product (Cond.code yX10_product cX10_product 2 none :: gW) (dd + 10) (40 * dd + 183) (LM ++ X) Y D E [.ref (E 0)] σ o) (hr_X10_factor : ∀ (σ : Sta) (o : (Unit ⊕ (Int32 × Int32)) × Sta), r_X10_factor σ = some o → MWV l yX10_factor (Cond.code yX10_factor cX10_factor 2 none :: gW) (dd + 10) (40 * dd + 183) (LM ++ X) Y D E [.ref (E 0)] σ o) (ht : l.stackTraces = false) {σ : Sta} {o : (Unit ⊕ (Int32 × Int32)) × Sta} (h : fb_X10_factor r_X10_expression r_X10_both r_X10_relation r_X10_sum r_X10_product r_X10_factor σ = some o) : MWV l yX10_factor (Cond.code yX10_factor cX10_factor 2 none :: gW) (dd + 1 + 10) (40 * (dd + 1) + 183) (LM ++ X) Y D E [.ref (E 0)] σ o := by
  refine Met_ofWV (by decide) (Nat.le_of_ble_eq_true rfl) (fun p e s m args below meth c hF hP htab ls hl => ?_)
  have hS : va_S (AF E (LM ++ X).length s.heap.size) s.heap s.heap [] := va_S.rf
  have hl : lv_has ls 2 [(0, .ref (E 0))] := hl
  show W p l e (rmw (dd + 1 + 10) (40 * (dd + 1) + 183) o) s m args below meth c s.heap [] 0 0 (QwV below args s (LM ++ X) Y D E o) (F0 m 0 ls [])
  unfold fb_X10_factor at h
  obtain ⟨hC, hb, hml, hr, hlk, hD, hSW⟩ := id hF
  have hx := hC.1
  refine lv_aload_n hx hb dX10_factor_0 rfl (lv_at hl 0 rfl) ?_
  refine lv_sipush (v := 201) hx hb dX10_factor_1 (by decide) ?_
  obtain ⟨r1, σ2, g3, h⟩ := of_bnd h
  refine x_VI (As := [.int 201]) (rest := []) hF hl hP hS (c_X10_is hX g3) (cw_X10_238 hC rfl rfl ⟨by show 0 + 1 ≤ dd + 1 + 10; omega, by show 8 + (2 + 11) + (0) ≤ 40 * (dd + 1) + 183; omega⟩) (lm_0 X) rfl rfl rfl (Nat.le_of_ble_eq_true rfl) dX10_factor_4 ⟨Nat.zero_le _, Nat.zero_le _⟩ (fun H locs hP hS => ?_)
  refine lv_if_eq (tgt := 31) hx hb dX10_factor_7 (by decide) (fun c4 => ?_) (fun c4 => ?_)
  · have h := of_t h c4
    refine lv_aload_n hx hb dX10_factor_31 rfl (lv_at hl 0 rfl) ?_
    refine lv_sipush (v := 200) hx hb dX10_factor_32 (by decide) ?_
    obtain ⟨r5, σ6, g7, h⟩ := of_bnd h
    refine x_VI (As := [.int 200]) (rest := []) hF hl hP hS (c_X10_is hX g7) (cw_X10_238 hC rfl rfl ⟨by show 0 + 1 ≤ dd + 1 + 10; omega, by show 8 + (2 + 11) + (0) ≤ 40 * (dd + 1) + 183; omega⟩) (lm_0 X) rfl rfl rfl (Nat.le_of_ble_eq_true rfl) dX10_factor_35 ⟨Nat.zero_le _, Nat.zero_le _⟩ (fun H locs hP hS => ?_)
    refine lv_if_eq (tgt := 58) hx hb dX10_factor_38 (by decide) (fun c8 => ?_) (fun c8 => ?_)
    · have h := of_t h c8
      refine lv_aload_n hx hb dX10_factor_58 rfl (lv_at hl 0 rfl) ?_
      refine lv_bipush (v := 107) hx hb dX10_factor_59 (by decide) ?_
      obtain ⟨r9, σ10, g11, h⟩ := of_bnd h
      refine x_VI (As := [.int 107]) (rest := []) hF hl hP hS (c_X10_is hX g11) (cw_X10_238 hC rfl rfl ⟨by show 0 + 1 ≤ dd + 1 + 10; omega, by show 8 + (2 + 11) + (0) ≤ 40 * (dd + 1) + 183; omega⟩) (lm_0 X) rfl rfl rfl (Nat.le_of_ble_eq_true rfl) dX10_factor_61 ⟨Nat.zero_le _, Nat.zero_le _⟩ (fun H locs hP hS => ?_)
      refine lv_if_ne (tgt := 76) hx hb dX10_factor_64 (by decide) (fun c12 => ?_) (fun c12 => ?_)
      · have h := of_f h c12
        exact t_X10_factor_76 hX  hr_X10_expression hr_X10_both hr_X10_relation hr_X10_sum hr_X10_product hr_X10_factor hF ht htab σ10 _ _ _ h hP hS (lv_sub hl [0] rfl)
      · have h := of_t h c12
        refine lv_aload_n hx hb dX10_factor_67 rfl (lv_at hl 0 rfl) ?_
        refine lv_bipush (v := 13) hx hb dX10_factor_68 (by decide) ?_
        obtain ⟨r13, σ14, g15, h⟩ := of_bnd h
        refine x_VI (As := [.int 13]) (rest := []) hF hl hP hS (c_X10_is hX g15) (cw_X10_238 hC rfl rfl ⟨by show 0 + 1 ≤ dd + 1 + 10; omega, by show 8 + (2 + 11) + (0) ≤ 40 * (dd + 1) + 183; omega⟩) (lm_0 X) rfl rfl rfl (Nat.le_of_ble_eq_true rfl) dX10_factor_70 ⟨Nat.zero_le _, Nat.zero_le _⟩ (fun H locs hP hS => ?_)
        refine lv_if_eq (tgt := 124) hx hb dX10_factor_73 (by decide) (fun c16 => ?_) (fun c16 => ?_)
        · have h := of_t h c16
          refine lv_aload_n hx hb dX10_factor_124 rfl (lv_at hl 0 rfl) ?_
          refine lv_bipush (v := 100) hx hb dX10_factor_125 (by decide) ?_
          obtain ⟨r17, σ18, g19, h⟩ := of_bnd h
          refine x_VI (As := [.int 100]) (rest := []) hF hl hP hS (c_X10_is hX g19) (cw_X10_238 hC rfl rfl ⟨by show 0 + 1 ≤ dd + 1 + 10; omega, by show 8 + (2 + 11) + (0) ≤ 40 * (dd + 1) + 183; omega⟩) (lm_0 X) rfl rfl rfl (Nat.le_of_ble_eq_true rfl) dX10_factor_127 ⟨Nat.zero_le _, Nat.zero_le _⟩ (fun H locs hP hS => ?_)
          refine lv_if_eq (tgt := 148) hx hb dX10_factor_130 (by decide) (fun c20 => ?_) (fun c20 => ?_)
          · have h := of_t h c20
            refine lv_aload_n hx hb dX10_factor_148 rfl (lv_at hl 0 rfl) ?_
            refine lv_bipush (v := 16) hx hb dX10_factor_149 (by decide) ?_
            obtain ⟨r21, σ22, g23, h⟩ := of_bnd h
            refine x_VI (As := [.int 16]) (rest := []) hF hl hP hS (c_X10_is hX g23) (cw_X10_238 hC rfl rfl ⟨by show 0 + 1 ≤ dd + 1 + 10; omega, by show 8 + (2 + 11) + (0) ≤ 40 * (dd + 1) + 183; omega⟩) (lm_0 X) rfl rfl rfl (Nat.le_of_ble_eq_true rfl) dX10_factor_151 ⟨Nat.zero_le _, Nat.zero_le _⟩ (fun H locs hP hS => ?_)
            refine lv_if_eq (tgt := 183) hx hb dX10_factor_154 (by decide) (fun c24 => ?_) (fun c24 => ?_)
            · have h := of_t h c24
              refine lv_aload_n hx hb dX10_factor_183 rfl (lv_at hl 0 rfl) ?_
              refine lv_bipush (v := 14) hx hb dX10_factor_184 (by decide) ?_
              obtain ⟨r25, σ26, g27, h⟩ := of_bnd h
              refine x_VI (As := [.int 14]) (rest := []) hF hl hP hS (c_X10_is hX g27) (cw_X10_238 hC rfl rfl ⟨by show 0 + 1 ≤ dd + 1 + 10; omega, by show 8 + (2 + 11) + (0) ≤ 40 * (dd + 1) + 183; omega⟩) (lm_0 X) rfl rfl rfl (Nat.le_of_ble_eq_true rfl) dX10_factor_186 ⟨Nat.zero_le _, Nat.zero_le _⟩ (fun H locs hP hS => ?_)
              refine lv_if_ne (tgt := 201) hx hb dX10_factor_189 (by decide) (fun c28 => ?_) (fun c28 => ?_)
              · have h := of_f h c28
                exact t_X10_factor_201 hX  hr_X10_expression hr_X10_both hr_X10_relation hr_X10_sum hr_X10_product hr_X10_factor hF ht htab σ26 _ _ _ h hP hS (lv_sub hl [0] rfl)
              · have h := of_t h c28
                refine lv_aload_n hx hb dX10_factor_192 rfl (lv_at hl 0 rfl) ?_
                refine lv_bipush (v := 15) hx hb dX10_factor_193 (by decide) ?_
                obtain ⟨r29, σ30, g31, h⟩ := of_bnd h
                refine x_VI (As := [.int 15]) (rest := []) hF hl hP hS (c_X10_is hX g31) (cw_X10_238 hC rfl rfl ⟨by show 0 + 1 ≤ dd + 1 + 10; omega, by show 8 + (2 + 11) + (0) ≤ 40 * (dd + 1) + 183; omega⟩) (lm_0 X) rfl rfl rfl (Nat.le_of_ble_eq_true rfl) dX10_factor_195 ⟨Nat.zero_le _, Nat.zero_le _⟩ (fun H locs hP hS => ?_)
                refine lv_if_eq (tgt := 253) hx hb dX10_factor_198 (by decide) (fun c32 => ?_) (fun c32 => ?_)
                · have h := of_t h c32
                  refine lv_aload_n hx hb dX10_factor_253 rfl (lv_at hl 0 rfl) ?_
                  obtain ⟨X33, g34, h⟩ := of_bnr h
                  cases h
                  refine x_VR (As := []) (rest := []) hF hl hP hS (c_X10_wrong hX ht g34) (cw_X10_234 hC rfl rfl ⟨by show 6 + 1 ≤ dd + 1 + 10; omega, by show 8 + (1 + 11) + (102) ≤ 40 * (dd + 1) + 183; omega⟩) (lm_0 X) rfl rfl rfl (Nat.le_of_ble_eq_true rfl) dX10_factor_254 ⟨Nat.le_of_ble_eq_true rfl, Nat.le_of_ble_eq_true rfl⟩ (fun wa35 H locs hP hS hWwa35 => ?_)
                  exact x_throwW hF hP hS hWwa35 (htab _ _ rfl) dX10_factor_257
                · have h := of_f h c32
                  exact t_X10_factor_201 hX  hr_X10_expression hr_X10_both hr_X10_relation hr_X10_sum hr_X10_product hr_X10_factor hF ht htab σ30 _ _ _ h hP hS (lv_sub hl [0] rfl)
            · have h := of_f h c24
              refine lv_aload_n hx hb dX10_factor_157 rfl (lv_at hl 0 rfl) ?_
              rcases of_bnw h with ⟨r36, σ37, g38, h⟩ | ⟨Xx, σ37, g38, rfl⟩
              rotate_left
              · exact x_VTw (As := []) (rest := []) hF hl hP hS (c_X10_take hX ht g38) (cw_X10_241 hC rfl rfl ⟨by show 7 + 1 ≤ dd + 1 + 10; omega, by show 8 + (1 + 11) + (122) ≤ 40 * (dd + 1) + 183; omega⟩) (lm_0 X) rfl rfl rfl (Nat.le_of_ble_eq_true rfl) dX10_factor_158 ⟨Nat.le_refl _, Nat.le_refl _⟩ (htab _ _ rfl)
              refine x_VV (As := []) (rest := []) hF hl hP hS (c_X10_take hX ht g38) (cw_X10_241 hC rfl rfl ⟨by show 7 + 1 ≤ dd + 1 + 10; omega, by show 8 + (1 + 11) + (122) ≤ 40 * (dd + 1) + 183; omega⟩) (lm_0 X) rfl rfl rfl (Nat.le_of_ble_eq_true rfl) dX10_factor_158 ⟨Nat.zero_le _, Nat.zero_le _⟩ (fun H locs hP hS => ?_)
              refine lv_aload_n hx hb dX10_factor_161 rfl (lv_at hl 0 rfl) ?_
              rcases of_bnw h with ⟨r39, σ40, g41, h⟩ | ⟨Xx, σ40, g41, rfl⟩
              rotate_left
              · exact x_VTw (As := []) (rest := []) hF hl hP hS (c_X10_open hX ht g41) (cw_X10_280 hC rfl rfl ⟨by show 8 + 1 ≤ dd + 1 + 10; omega, by show 8 + (1 + 11) + (142) ≤ 40 * (dd + 1) + 183; omega⟩) (lm_0 X) rfl rfl rfl (Nat.le_of_ble_eq_true rfl) dX10_factor_162 ⟨Nat.le_refl _, Nat.le_refl _⟩ (htab _ _ rfl)
              refine x_VV (As := []) (rest := []) hF hl hP hS (c_X10_open hX ht g41) (cw_X10_280 hC rfl rfl ⟨by show 8 + 1 ≤ dd + 1 + 10; omega, by show 8 + (1 + 11) + (142) ≤ 40 * (dd + 1) + 183; omega⟩) (lm_0 X) rfl rfl rfl (Nat.le_of_ble_eq_true rfl) dX10_factor_162 ⟨Nat.zero_le _, Nat.zero_le _⟩ (fun H locs hP hS => ?_)
              refine lv_aload_n hx hb dX10_factor_165 rfl (lv_at hl 0 rfl) ?_
              rcases of_bnw h with ⟨r42, σ43, g44, h⟩ | ⟨Xx, σ43, g44, rfl⟩
              rotate_left
              · exact x_VTw (As := []) (rest := []) hF hl hP hS (hr_X10_expression _ _ g44) (cw_X10_247 hC rfl rfl ⟨by show dd + 10 + 1 ≤ dd + 1 + 10; omega, by show 8 + (1 + 11) + (40 * dd + 183) ≤ 40 * (dd + 1) + 183; omega⟩) (lm_0 X) rfl rfl rfl (Nat.le_of_ble_eq_true rfl) dX10_factor_166 ⟨Nat.le_refl _, Nat.le_refl _⟩ (htab _ _ rfl)
              refine x_VV (As := []) (rest := []) hF hl hP hS (hr_X10_expression _ _ g44) (cw_X10_247 hC rfl rfl ⟨by show dd + 10 + 1 ≤ dd + 1 + 10; omega, by show 8 + (1 + 11) + (40 * dd + 183) ≤ 40 * (dd + 1) + 183; omega⟩) (lm_0 X) rfl rfl rfl (Nat.le_of_ble_eq_true rfl) dX10_factor_166 ⟨Nat.zero_le _, Nat.zero_le _⟩ (fun H locs hP hS => ?_)
              refine lv_aload_n hx hb dX10_factor_169 rfl (lv_at hl 0 rfl) ?_
              rcases of_bnw h with ⟨r45, σ46, g47, h⟩ | ⟨Xx, σ46, g47, rfl⟩
              rotate_left
              · exact x_VTw (As := []) (rest := []) hF hl hP hS (c_X10_close hX ht g47) (cw_X10_283 hC rfl rfl ⟨by show 9 + 1 ≤ dd + 1 + 10; omega, by show 8 + (1 + 11) + (163) ≤ 40 * (dd + 1) + 183; omega⟩) (lm_0 X) rfl rfl rfl (Nat.le_of_ble_eq_true rfl) dX10_factor_170 ⟨Nat.le_refl _, Nat.le_refl _⟩ (htab _ _ rfl)
              refine x_VV (As := []) (rest := []) hF hl hP hS (c_X10_close hX ht g47) (cw_X10_283 hC rfl rfl ⟨by show 9 + 1 ≤ dd + 1 + 10; omega, by show 8 + (1 + 11) + (163) ≤ 40 * (dd + 1) + 183; omega⟩) (lm_0 X) rfl rfl rfl (Nat.le_of_ble_eq_true rfl) dX10_factor_170 ⟨Nat.zero_le _, Nat.zero_le _⟩ (fun H locs hP hS => ?_)
              refine lv_aload_n hx hb dX10_factor_173 rfl (lv_at hl 0 rfl) ?_
              refine lv_bipush (v := 42) hx hb dX10_factor_174 (by decide) ?_
              refine lv_lconst (v := 0) hx hb dX10_factor_176 (by decide) ?_
              obtain ⟨r48, σ49, g50, h⟩ := of_bnd h
              refine x_VV (As := [.int 42, .long 0]) (rest := []) hF hl hP hS (c_X10_emit hX g50) (cw_X10_250 hC rfl rfl ⟨by show 0 + 1 ≤ dd + 1 + 10; omega, by show 8 + (4 + 11) + (0) ≤ 40 * (dd + 1) + 183; omega⟩) (lm_0 X) rfl rfl rfl (Nat.le_of_ble_eq_true rfl) dX10_factor_177 ⟨Nat.zero_le _, Nat.zero_le _⟩ (fun H locs hP hS => ?_)
              refine lv_goto (tgt := 258) hx hb dX10_factor_180 (by decide) ?_
              exact t_X10_factor_258 hX  hr_X10_expression hr_X10_both hr_X10_relation hr_X10_sum hr_X10_product hr_X10_factor hF ht htab σ49 _ _ _ h hP hS (lv_sub hl [] rfl)
          · have h := of_f h c20
            refine lv_aload_n hx hb dX10_factor_133 rfl (lv_at hl 0 rfl) ?_
            rcases of_bnw h with ⟨r51, σ52, g53, h⟩ | ⟨Xx, σ52, g53, rfl⟩
            rotate_left
            · exact x_VTw (As := []) (rest := []) hF hl hP hS (c_X10_open hX ht g53) (cw_X10_280 hC rfl rfl ⟨by show 8 + 1 ≤ dd + 1 + 10; omega, by show 8 + (1 + 11) + (142) ≤ 40 * (dd + 1) + 183; omega⟩) (lm_0 X) rfl rfl rfl (Nat.le_of_ble_eq_true rfl) dX10_factor_134 ⟨Nat.le_refl _, Nat.le_refl _⟩ (htab _ _ rfl)
            refine x_VV (As := []) (rest := []) hF hl hP hS (c_X10_open hX ht g53) (cw_X10_280 hC rfl rfl ⟨by show 8 + 1 ≤ dd + 1 + 10; omega, by show 8 + (1 + 11) + (142) ≤ 40 * (dd + 1) + 183; omega⟩) (lm_0 X) rfl rfl rfl (Nat.le_of_ble_eq_true rfl) dX10_factor_134 ⟨Nat.zero_le _, Nat.zero_le _⟩ (fun H locs hP hS => ?_)
            refine lv_aload_n hx hb dX10_factor_137 rfl (lv_at hl 0 rfl) ?_
            rcases of_bnw h with ⟨r54, σ55, g56, h⟩ | ⟨Xx, σ55, g56, rfl⟩
            rotate_left
            · exact x_VTw (As := []) (rest := []) hF hl hP hS (hr_X10_expression _ _ g56) (cw_X10_247 hC rfl rfl ⟨by show dd + 10 + 1 ≤ dd + 1 + 10; omega, by show 8 + (1 + 11) + (40 * dd + 183) ≤ 40 * (dd + 1) + 183; omega⟩) (lm_0 X) rfl rfl rfl (Nat.le_of_ble_eq_true rfl) dX10_factor_138 ⟨Nat.le_refl _, Nat.le_refl _⟩ (htab _ _ rfl)
            refine x_VV (As := []) (rest := []) hF hl hP hS (hr_X10_expression _ _ g56) (cw_X10_247 hC rfl rfl ⟨by show dd + 10 + 1 ≤ dd + 1 + 10; omega, by show 8 + (1 + 11) + (40 * dd + 183) ≤ 40 * (dd + 1) + 183; omega⟩) (lm_0 X) rfl rfl rfl (Nat.le_of_ble_eq_true rfl) dX10_factor_138 ⟨Nat.zero_le _, Nat.zero_le _⟩ (fun H locs hP hS => ?_)
            refine lv_aload_n hx hb dX10_factor_141 rfl (lv_at hl 0 rfl) ?_
            rcases of_bnw h with ⟨r57, σ58, g59, h⟩ | ⟨Xx, σ58, g59, rfl⟩
            rotate_left
            · exact x_VTw (As := []) (rest := []) hF hl hP hS (c_X10_close hX ht g59) (cw_X10_283 hC rfl rfl ⟨by show 9 + 1 ≤ dd + 1 + 10; omega, by show 8 + (1 + 11) + (163) ≤ 40 * (dd + 1) + 183; omega⟩) (lm_0 X) rfl rfl rfl (Nat.le_of_ble_eq_true rfl) dX10_factor_142 ⟨Nat.le_refl _, Nat.le_refl _⟩ (htab _ _ rfl)
            refine x_VV (As := []) (rest := []) hF hl hP hS (c_X10_close hX ht g59) (cw_X10_283 hC rfl rfl ⟨by show 9 + 1 ≤ dd + 1 + 10; omega, by show 8 + (1 + 11) + (163) ≤ 40 * (dd + 1) + 183; omega⟩) (lm_0 X) rfl rfl rfl (Nat.le_of_ble_eq_true rfl) dX10_factor_142 ⟨Nat.zero_le _, Nat.zero_le _⟩ (fun H locs hP hS => ?_)
            refine lv_goto (tgt := 258) hx hb dX10_factor_145 (by decide) ?_
            exact t_X10_factor_258 hX  hr_X10_expression hr_X10_both hr_X10_relation hr_X10_sum hr_X10_product hr_X10_factor hF ht htab σ58 _ _ _ h hP hS (lv_sub hl [] rfl)
        · have h := of_f h c16
          exact t_X10_factor_76 hX  hr_X10_expression hr_X10_both hr_X10_relation hr_X10_sum hr_X10_product hr_X10_factor hF ht htab σ14 _ _ _ h hP hS (lv_sub hl [0] rfl)
    · have h := of_f h c8
      refine lv_aload_n hx hb dX10_factor_41 rfl (lv_at hl 0 rfl) ?_
      refine lv_iconst (v := 1) hx hb dX10_factor_42 (by decide) ?_
      refine lv_aload_n hx hb dX10_factor_43 rfl (lv_at hl 0 rfl) ?_
      rcases of_bnw h with ⟨r60, σ61, g62, h⟩ | ⟨Xx, σ61, g62, rfl⟩
      rotate_left
      · exact x_VTw (As := []) (rest := [.int 1, .ref (E 0)]) hF hl hP hS (c_X10_variableHere hX ht g62) (cw_X10_273 hC rfl rfl ⟨by show 7 + 1 ≤ dd + 1 + 10; omega, by show 8 + (2 + 11) + (125) ≤ 40 * (dd + 1) + 183; omega⟩) (lm_0 X) rfl rfl rfl (Nat.le_of_ble_eq_true rfl) dX10_factor_44 ⟨Nat.le_refl _, Nat.le_refl _⟩ (htab _ _ rfl)
      refine x_VI (As := []) (rest := [.int 1, .ref (E 0)]) hF hl hP hS (c_X10_variableHere hX ht g62) (cw_X10_273 hC rfl rfl ⟨by show 7 + 1 ≤ dd + 1 + 10; omega, by show 8 + (2 + 11) + (125) ≤ 40 * (dd + 1) + 183; omega⟩) (lm_0 X) rfl rfl rfl (Nat.le_of_ble_eq_true rfl) dX10_factor_44 ⟨Nat.zero_le _, Nat.zero_le _⟩ (fun H locs hP hS => ?_)
      refine lv_i2l (v := r60.toInt64) hx hb dX10_factor_47 rfl ?_
      obtain ⟨r63, σ64, g65, h⟩ := of_bnd h
      refine x_VV (As := [.int 1, .long r60.toInt64]) (rest := []) hF hl hP hS (c_X10_emit hX g65) (cw_X10_250 hC rfl rfl ⟨by show 0 + 1 ≤ dd + 1 + 10; omega, by show 8 + (4 + 11) + (0) ≤ 40 * (dd + 1) + 183; omega⟩) (lm_0 X) rfl rfl rfl (Nat.le_of_ble_eq_true rfl) dX10_factor_48 ⟨Nat.zero_le _, Nat.zero_le _⟩ (fun H locs hP hS => ?_)
      refine lv_aload_n hx hb dX10_factor_51 rfl (lv_at hl 0 rfl) ?_
      rcases of_bnw h with ⟨r66, σ67, g68, h⟩ | ⟨Xx, σ67, g68, rfl⟩
      rotate_left
      · exact x_VTw (As := []) (rest := []) hF hl hP hS (c_X10_take hX ht g68) (cw_X10_241 hC rfl rfl ⟨by show 7 + 1 ≤ dd + 1 + 10; omega, by show 8 + (1 + 11) + (122) ≤ 40 * (dd + 1) + 183; omega⟩) (lm_0 X) rfl rfl rfl (Nat.le_of_ble_eq_true rfl) dX10_factor_52 ⟨Nat.le_refl _, Nat.le_refl _⟩ (htab _ _ rfl)
      refine x_VV (As := []) (rest := []) hF hl hP hS (c_X10_take hX ht g68) (cw_X10_241 hC rfl rfl ⟨by show 7 + 1 ≤ dd + 1 + 10; omega, by show 8 + (1 + 11) + (122) ≤ 40 * (dd + 1) + 183; omega⟩) (lm_0 X) rfl rfl rfl (Nat.le_of_ble_eq_true rfl) dX10_factor_52 ⟨Nat.zero_le _, Nat.zero_le _⟩ (fun H locs hP hS => ?_)
      refine lv_goto (tgt := 258) hx hb dX10_factor_55 (by decide) ?_
      exact t_X10_factor_258 hX  hr_X10_expression hr_X10_both hr_X10_relation hr_X10_sum hr_X10_product hr_X10_factor hF ht htab σ67 _ _ _ h hP hS (lv_sub hl [] rfl)
  · have h := of_f h c4
    refine lv_aload_n hx hb dX10_factor_10 rfl (lv_at hl 0 rfl) ?_
    refine lv_iconst (v := 0) hx hb dX10_factor_11 (by decide) ?_
    refine lv_aload_n hx hb dX10_factor_12 rfl (lv_at hl 0 rfl) ?_
    refine gf_X10_23 hC hb hP dX10_factor_13 ?_
    refine lv_aload_n hx hb dX10_factor_16 rfl (lv_at hl 0 rfl) ?_
    refine gf_X10_219 hC hb hP dX10_factor_17 ?_
    obtain ⟨g69, h⟩ := of_gd h
    refine x_lald hC hb hP (lm_5 X) g69 dX10_factor_20 ?_
    obtain ⟨r70, σ71, g72, h⟩ := of_bnd h
    refine x_VV (As := [.int 0, .long (gJ σ2 5 ((gI σ2 29).toNatClampNeg))]) (rest := []) hF hl hP hS (c_X10_emit hX g72) (cw_X10_250 hC rfl rfl ⟨by show 0 + 1 ≤ dd + 1 + 10; omega, by show 8 + (4 + 11) + (0) ≤ 40 * (dd + 1) + 183; omega⟩) (lm_0 X) rfl rfl rfl (Nat.le_of_ble_eq_true rfl) dX10_factor_21 ⟨Nat.zero_le _, Nat.zero_le _⟩ (fun H locs hP hS => ?_)
    refine lv_aload_n hx hb dX10_factor_24 rfl (lv_at hl 0 rfl) ?_
    rcases of_bnw h with ⟨r73, σ74, g75, h⟩ | ⟨Xx, σ74, g75, rfl⟩
    rotate_left
    · exact x_VTw (As := []) (rest := []) hF hl hP hS (c_X10_take hX ht g75) (cw_X10_241 hC rfl rfl ⟨by show 7 + 1 ≤ dd + 1 + 10; omega, by show 8 + (1 + 11) + (122) ≤ 40 * (dd + 1) + 183; omega⟩) (lm_0 X) rfl rfl rfl (Nat.le_of_ble_eq_true rfl) dX10_factor_25 ⟨Nat.le_refl _, Nat.le_refl _⟩ (htab _ _ rfl)
    refine x_VV (As := []) (rest := []) hF hl hP hS (c_X10_take hX ht g75) (cw_X10_241 hC rfl rfl ⟨by show 7 + 1 ≤ dd + 1 + 10; omega, by show 8 + (1 + 11) + (122) ≤ 40 * (dd + 1) + 183; omega⟩) (lm_0 X) rfl rfl rfl (Nat.le_of_ble_eq_true rfl) dX10_factor_25 ⟨Nat.zero_le _, Nat.zero_le _⟩ (fun H locs hP hS => ?_)
    refine lv_goto (tgt := 258) hx hb dX10_factor_28 (by decide) ?_
    exact t_X10_factor_258 hX  hr_X10_expression hr_X10_both hr_X10_relation hr_X10_sum hr_X10_product hr_X10_factor hF ht htab σ74 _ _ _ h hP hS (lv_sub hl [] rfl)

def fr_X10R : Nat → (Sta → Option ((Unit ⊕ (Int32 × Int32)) × Sta)) × (Sta → Option ((Unit ⊕ (Int32 × Int32)) × Sta)) × (Sta → Option ((Unit ⊕ (Int32 × Int32)) × Sta)) × (Sta → Option ((Unit ⊕ (Int32 × Int32)) × Sta)) × (Sta → Option ((Unit ⊕ (Int32 × Int32)) × Sta)) × (Sta → Option ((Unit ⊕ (Int32 × Int32)) × Sta))
  | 0 => (fun _ => none, fun _ => none, fun _ => none, fun _ => none, fun _ => none, fun _ => none)
  | n + 1 => (fb_X10_expression (fr_X10R n).1 (fr_X10R n).2.1 (fr_X10R n).2.2.1 (fr_X10R n).2.2.2.1 (fr_X10R n).2.2.2.2.1 (fr_X10R n).2.2.2.2.2, fb_X10_both (fr_X10R n).1 (fr_X10R n).2.1 (fr_X10R n).2.2.1 (fr_X10R n).2.2.2.1 (fr_X10R n).2.2.2.2.1 (fr_X10R n).2.2.2.2.2, fb_X10_relation (fr_X10R n).1 (fr_X10R n).2.1 (fr_X10R n).2.2.1 (fr_X10R n).2.2.2.1 (fr_X10R n).2.2.2.2.1 (fr_X10R n).2.2.2.2.2, fb_X10_sum (fr_X10R n).1 (fr_X10R n).2.1 (fr_X10R n).2.2.1 (fr_X10R n).2.2.2.1 (fr_X10R n).2.2.2.2.1 (fr_X10R n).2.2.2.2.2, fb_X10_product (fr_X10R n).1 (fr_X10R n).2.1 (fr_X10R n).2.2.1 (fr_X10R n).2.2.2.1 (fr_X10R n).2.2.2.2.1 (fr_X10R n).2.2.2.2.2, fb_X10_factor (fr_X10R n).1 (fr_X10R n).2.1 (fr_X10R n).2.2.1 (fr_X10R n).2.2.2.1 (fr_X10R n).2.2.2.2.1 (fr_X10R n).2.2.2.2.2)

theorem c_X10R {l : Launch} {D : va_G} {Y : CYs} {E : Nat → Nat} {X : List Dsc} (hX : Lok (LM ++ X)) (ht : l.stackTraces = false) : ∀ d : Nat, (∀ (σ : Sta) (o : (Unit ⊕ (Int32 × Int32)) × Sta), (fr_X10R d).1 σ = some o → MWV l yX10_expression (Cond.code yX10_expression cX10_expression 1 none :: gW) (d + 10) (40 * d + 183) (LM ++ X) Y D E [.ref (E 0)] σ o) ∧ (∀ (σ : Sta) (o : (Unit ⊕ (Int32 × Int32)) × Sta), (fr_X10R d).2.1 σ = some o → MWV l yX10_both (Cond.code yX10_both cX10_both 1 none :: gW) (d + 10) (40 * d + 183) (LM ++ X) Y D E [.ref (E 0)] σ o) ∧ (∀ (σ : Sta) (o : (Unit ⊕ (Int32 × Int32)) × Sta), (fr_X10R d).2.2.1 σ = some o → MWV l yX10_relation (Cond.code yX10_relation cX10_relation 2 none :: gW) (d + 10) (40 * d + 183) (LM ++ X) Y D E [.ref (E 0)] σ o) ∧ (∀ (σ : Sta) (o : (Unit ⊕ (Int32 × Int32)) × Sta), (fr_X10R d).2.2.2.1 σ = some o → MWV l yX10_sum (Cond.code yX10_sum cX10_sum 2 none :: gW) (d + 10) (40 * d + 183) (LM ++ X) Y D E [.ref (E 0)] σ o) ∧ (∀ (σ : Sta) (o : (Unit ⊕ (Int32 × Int32)) × Sta), (fr_X10R d).2.2.2.2.1 σ = some o → MWV l yX10_product (Cond.code yX10_product cX10_product 2 none :: gW) (d + 10) (40 * d + 183) (LM ++ X) Y D E [.ref (E 0)] σ o) ∧ (∀ (σ : Sta) (o : (Unit ⊕ (Int32 × Int32)) × Sta), (fr_X10R d).2.2.2.2.2 σ = some o → MWV l yX10_factor (Cond.code yX10_factor cX10_factor 2 none :: gW) (d + 10) (40 * d + 183) (LM ++ X) Y D E [.ref (E 0)] σ o) := by
  intro d
  induction d with
  | zero => exact ⟨fun _ _ h => (nomatch (show (none : Option ((Unit ⊕ (Int32 × Int32)) × Sta)) = some _ from h)), fun _ _ h => (nomatch (show (none : Option ((Unit ⊕ (Int32 × Int32)) × Sta)) = some _ from h)), fun _ _ h => (nomatch (show (none : Option ((Unit ⊕ (Int32 × Int32)) × Sta)) = some _ from h)), fun _ _ h => (nomatch (show (none : Option ((Unit ⊕ (Int32 × Int32)) × Sta)) = some _ from h)), fun _ _ h => (nomatch (show (none : Option ((Unit ⊕ (Int32 × Int32)) × Sta)) = some _ from h)), fun _ _ h => (nomatch (show (none : Option ((Unit ⊕ (Int32 × Int32)) × Sta)) = some _ from h))⟩
  | succ n ih => exact ⟨fun _ _ h => cb_X10_expression hX ih.1 ih.2.1 ih.2.2.1 ih.2.2.2.1 ih.2.2.2.2.1 ih.2.2.2.2.2 ht h, fun _ _ h => cb_X10_both hX ih.1 ih.2.1 ih.2.2.1 ih.2.2.2.1 ih.2.2.2.2.1 ih.2.2.2.2.2 ht h, fun _ _ h => cb_X10_relation hX ih.1 ih.2.1 ih.2.2.1 ih.2.2.2.1 ih.2.2.2.2.1 ih.2.2.2.2.2 ht h, fun _ _ h => cb_X10_sum hX ih.1 ih.2.1 ih.2.2.1 ih.2.2.2.1 ih.2.2.2.2.1 ih.2.2.2.2.2 ht h, fun _ _ h => cb_X10_product hX ih.1 ih.2.1 ih.2.2.1 ih.2.2.2.1 ih.2.2.2.2.1 ih.2.2.2.2.2 ht h, fun _ _ h => cb_X10_factor hX ih.1 ih.2.1 ih.2.2.1 ih.2.2.2.1 ih.2.2.2.2.1 ih.2.2.2.2.2 ht h⟩

def f_X10_expression (σ : Sta) : Option ((Unit ⊕ (Int32 × Int32)) × Sta) := (fr_X10R 100).1 σ

theorem c_X10_expression {l : Launch} {D : va_G} {Y : CYs} {E : Nat → Nat} {X : List Dsc} (hX : Lok (LM ++ X)) (ht : l.stackTraces = false) {σ : Sta} {o : (Unit ⊕ (Int32 × Int32)) × Sta} (h : f_X10_expression σ = some o) : MWV l yX10_expression (Cond.code yX10_expression cX10_expression 1 none :: gW) (110) (4183) (LM ++ X) Y D E [.ref (E 0)] σ o := (c_X10R hX ht 100).1 _ _ h

def f_X10_both (σ : Sta) : Option ((Unit ⊕ (Int32 × Int32)) × Sta) := (fr_X10R 100).2.1 σ

theorem c_X10_both {l : Launch} {D : va_G} {Y : CYs} {E : Nat → Nat} {X : List Dsc} (hX : Lok (LM ++ X)) (ht : l.stackTraces = false) {σ : Sta} {o : (Unit ⊕ (Int32 × Int32)) × Sta} (h : f_X10_both σ = some o) : MWV l yX10_both (Cond.code yX10_both cX10_both 1 none :: gW) (110) (4183) (LM ++ X) Y D E [.ref (E 0)] σ o := (c_X10R hX ht 100).2.1 _ _ h

def f_X10_relation (σ : Sta) : Option ((Unit ⊕ (Int32 × Int32)) × Sta) := (fr_X10R 100).2.2.1 σ

theorem c_X10_relation {l : Launch} {D : va_G} {Y : CYs} {E : Nat → Nat} {X : List Dsc} (hX : Lok (LM ++ X)) (ht : l.stackTraces = false) {σ : Sta} {o : (Unit ⊕ (Int32 × Int32)) × Sta} (h : f_X10_relation σ = some o) : MWV l yX10_relation (Cond.code yX10_relation cX10_relation 2 none :: gW) (110) (4183) (LM ++ X) Y D E [.ref (E 0)] σ o := (c_X10R hX ht 100).2.2.1 _ _ h

def f_X10_sum (σ : Sta) : Option ((Unit ⊕ (Int32 × Int32)) × Sta) := (fr_X10R 100).2.2.2.1 σ

theorem c_X10_sum {l : Launch} {D : va_G} {Y : CYs} {E : Nat → Nat} {X : List Dsc} (hX : Lok (LM ++ X)) (ht : l.stackTraces = false) {σ : Sta} {o : (Unit ⊕ (Int32 × Int32)) × Sta} (h : f_X10_sum σ = some o) : MWV l yX10_sum (Cond.code yX10_sum cX10_sum 2 none :: gW) (110) (4183) (LM ++ X) Y D E [.ref (E 0)] σ o := (c_X10R hX ht 100).2.2.2.1 _ _ h

def f_X10_product (σ : Sta) : Option ((Unit ⊕ (Int32 × Int32)) × Sta) := (fr_X10R 100).2.2.2.2.1 σ

theorem c_X10_product {l : Launch} {D : va_G} {Y : CYs} {E : Nat → Nat} {X : List Dsc} (hX : Lok (LM ++ X)) (ht : l.stackTraces = false) {σ : Sta} {o : (Unit ⊕ (Int32 × Int32)) × Sta} (h : f_X10_product σ = some o) : MWV l yX10_product (Cond.code yX10_product cX10_product 2 none :: gW) (110) (4183) (LM ++ X) Y D E [.ref (E 0)] σ o := (c_X10R hX ht 100).2.2.2.2.1 _ _ h

def f_X10_factor (σ : Sta) : Option ((Unit ⊕ (Int32 × Int32)) × Sta) := (fr_X10R 100).2.2.2.2.2 σ

theorem c_X10_factor {l : Launch} {D : va_G} {Y : CYs} {E : Nat → Nat} {X : List Dsc} (hX : Lok (LM ++ X)) (ht : l.stackTraces = false) {σ : Sta} {o : (Unit ⊕ (Int32 × Int32)) × Sta} (h : f_X10_factor σ = some o) : MWV l yX10_factor (Cond.code yX10_factor cX10_factor 2 none :: gW) (110) (4183) (LM ++ X) Y D E [.ref (E 0)] σ o := (c_X10R hX ht 100).2.2.2.2.2 _ _ h

def f_X10_whole (σ : Sta) : Option ((Int32 ⊕ (Int32 × Int32)) × Sta) :=
  lt (gI σ 26) (fun x1 =>
  lt (sI σ 32 60) (fun σ2 =>
  bnw (f_X10_expression σ2) (fun _ σ4 =>
  lt (sI σ4 32 (-1)) (fun σ6 =>
  bnd (f_X10_emit 50 0 σ6) (fun _ σ8 =>
  some (.inl x1, σ8))))))
set_option maxHeartbeats 4000000 in
set_option maxRecDepth 100000 in
theorem c_X10_whole {l : Launch} {D : va_G} {Y : CYs} {E : Nat → Nat} {X : List Dsc} (hX : Lok (LM ++ X)) (ht : l.stackTraces = false) {σ : Sta} {o : (Int32 ⊕ (Int32 × Int32)) × Sta} (h : f_X10_whole σ = some o) : MWI l yX10_whole (Cond.code yX10_whole cX10_whole 2 (some .int) :: gW) 111 4203 (LM ++ X) Y D E [.ref (E 0)] σ o := by
  refine Met_ofWI (by decide) (Nat.le_of_ble_eq_true rfl) (fun p e s m args below meth c hF hP htab ls hl => ?_)
  have hS : va_S (AF E (LM ++ X).length s.heap.size) s.heap s.heap [] := va_S.rf
  have hl : lv_has ls 2 [(0, .ref (E 0))] := hl
  show W p l e (rmw 111 4203 o) s m args below meth c s.heap [] 0 0 (QwI below args s (LM ++ X) Y D E o) (F0 m 0 ls [])
  unfold f_X10_whole at h
  obtain ⟨hC, hb, hml, hr, hlk, hD, hSW⟩ := id hF
  have hx := hC.1
  refine lv_aload_n hx hb dX10_whole_0 rfl (lv_at hl 0 rfl) ?_
  refine gf_X10_210 hC hb hP dX10_whole_1 ?_
  refine lv_topi (fun x1 ex1 => ?_)
  have h := of_lt h ex1
  refine lv_istore_n (lv' := [(1, .int x1), (0, .ref (E 0))]) hx hb dX10_whole_4 rfl hl (by decide) rfl (fun ls hl => ?_)
  refine lv_aload_n hx hb dX10_whole_5 rfl (lv_at hl 1 rfl) ?_
  refine lv_bipush (v := 60) hx hb dX10_whole_6 (by decide) ?_
  refine pf_X10_231 hX hC hb hP hD hS dX10_whole_8 (fun H locs σ2 eσ2 hP hS => ?_)
  have h := of_lt h eσ2
  refine lv_aload_n hx hb dX10_whole_11 rfl (lv_at hl 1 rfl) ?_
  rcases of_bnw h with ⟨r3, σ4, g5, h⟩ | ⟨Xx, σ4, g5, rfl⟩
  rotate_left
  · exact x_VTw (As := []) (rest := []) hF hl hP hS (c_X10_expression hX ht g5) (cw_X10_247 hC rfl rfl ⟨Nat.le_of_ble_eq_true rfl, Nat.le_of_ble_eq_true rfl⟩) (lm_0 X) rfl rfl rfl (Nat.le_of_ble_eq_true rfl) dX10_whole_12 ⟨Nat.le_refl _, Nat.le_refl _⟩ (htab _ _ rfl)
  refine x_VV (As := []) (rest := []) hF hl hP hS (c_X10_expression hX ht g5) (cw_X10_247 hC rfl rfl ⟨Nat.le_of_ble_eq_true rfl, Nat.le_of_ble_eq_true rfl⟩) (lm_0 X) rfl rfl rfl (Nat.le_of_ble_eq_true rfl) dX10_whole_12 ⟨Nat.zero_le _, Nat.zero_le _⟩ (fun H locs hP hS => ?_)
  refine lv_aload_n hx hb dX10_whole_15 rfl (lv_at hl 1 rfl) ?_
  refine lv_iconst (v := -1) hx hb dX10_whole_16 (by decide) ?_
  refine pf_X10_231 hX hC hb hP hD hS dX10_whole_17 (fun H locs σ6 eσ6 hP hS => ?_)
  have h := of_lt h eσ6
  refine lv_aload_n hx hb dX10_whole_20 rfl (lv_at hl 1 rfl) ?_
  refine lv_bipush (v := 50) hx hb dX10_whole_21 (by decide) ?_
  refine lv_lconst (v := 0) hx hb dX10_whole_23 (by decide) ?_
  obtain ⟨r7, σ8, g9, h⟩ := of_bnd h
  refine x_VV (As := [.int 50, .long 0]) (rest := []) hF hl hP hS (c_X10_emit hX g9) (cw_X10_250 hC rfl rfl ⟨Nat.le_of_ble_eq_true rfl, Nat.le_of_ble_eq_true rfl⟩) (lm_0 X) rfl rfl rfl (Nat.le_of_ble_eq_true rfl) dX10_whole_24 ⟨Nat.zero_le _, Nat.zero_le _⟩ (fun H locs hP hS => ?_)
  refine lv_iload_n hx hb dX10_whole_27 rfl (lv_at hl 0 rfl) ?_
  exact x_iretW hF hP hS h dX10_whole_28
