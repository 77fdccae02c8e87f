theorem cw_X7_72 {R : Room} {p : Program} {s : State} {m : MethodId} {args : Array Value} {D : va_G} {Y : CYs} {rm : Room} (hC : Ctx p s m args RX7 D Y) (hrc : rm.cells = 0) (hrs : rm.slots = 0) (hR : rm.frames + 1 ≤ R.frames ∧ 8 + (1 + 11) + rm.locals ≤ R.locals) : CallW R s args RX7 RJ0 72 yJ0_length_8abf5 cJ0_length_8abf5 1 (some .int) (Cond.code yJ0_length_8abf5 cJ0_length_8abf5 1 (some .int) :: gW) rm 0 0 0 :=
  cwV 0 hC.2.1 (gi_V (gw_t (tb5 (List.mem_of_getElem? (i := 104) rfl)) rfl) (gw_t (tb4 (List.mem_of_getElem? (i := 108) rfl)) rfl) (gw_t (tb4 (List.mem_of_getElem? (i := 109) rfl)) rfl) (gw_t (tb1 (List.mem_of_getElem? (i := 13) rfl)) rfl) (gw_t (tb4 (List.mem_of_getElem? (i := 110) rfl)) rfl)) rfl hrc hrs ⟨rfl, by decide +kernel, by decide +kernel, by decide +kernel⟩ hR
theorem cw_X7_76 {R : Room} {p : Program} {s : State} {m : MethodId} {args : Array Value} {D : va_G} {Y : CYs} {rm : Room} (hC : Ctx p s m args RX7 D Y) (hrc : rm.cells = 0) (hrs : rm.slots = 0) (hR : rm.frames + 1 ≤ R.frames ∧ 8 + (2 + 11) + rm.locals ≤ R.locals) : CallW R s args RX7 RJ0 76 yJ0_charAt_5068e cJ0_charAt_5068e 2 (some .char) (Cond.code yJ0_charAt_5068e cJ0_charAt_5068e 2 (some .char) :: gW) rm 0 0 1 :=
  cwV 1 hC.2.1 (gi_V (gw_t (tb5 (List.mem_of_getElem? (i := 105) rfl)) rfl) (gw_t (tb5 (List.mem_of_getElem? (i := 21) rfl)) rfl) (gw_t (tb5 (List.mem_of_getElem? (i := 22) rfl)) rfl) (gw_t (tb1 (List.mem_of_getElem? (i := 13) rfl)) rfl) (gw_t (tb5 (List.mem_of_getElem? (i := 23) rfl)) rfl)) rfl hrc hrs ⟨rfl, by decide +kernel, by decide +kernel, by decide +kernel⟩ hR
theorem gf_X7_22 {p : Program} {l : Launch} {e : Env} {R : Room} {s : State} {m : MethodId} {args : Array Value} {below : List Frame} {meth : Method} {c : Code} {H : Heap} {locs : List Loc} {cells slots : Nat} {Q : State → Prop} {D : va_G} {Y : CYs} {E : Nat → Nat} {σ : Sta} {cc : ByteArray} {pc : Nat} {ls : Array Slot} {rest : List Value} (hC : Ctx p s m args RX7 D Y) (hb : c.code = cc) (hP : va_P D vwCl (wd Y E σ 0 LC) H) (hdg : decode cc pc = .ok (.getfield 22, 3)) (kk : W p l e R s m args below meth c H locs cells slots Q (F0 m (pc + 3) ls (.int (gI σ 67) :: rest))) : W p l e R s m args below meth c H locs cells slots Q (F0 m pc ls (.ref (E 1) :: rest)) :=
  x_getI hC hb hP inGX7 lc_1 rfl 3 (by decide) rfl (gw_t (tb1 (List.mem_of_getElem? (i := 49) rfl)) rfl) rfl hdg kk
theorem gf_X7_9 {p : Program} {l : Launch} {e : Env} {R : Room} {s : State} {m : MethodId} {args : Array Value} {below : List Frame} {meth : Method} {c : Code} {H : Heap} {locs : List Loc} {cells slots : Nat} {Q : State → Prop} {D : va_G} {Y : CYs} {E : Nat → Nat} {σ : Sta} {cc : ByteArray} {pc : Nat} {ls : Array Slot} {rest : List Value} (hC : Ctx p s m args RX7 D Y) (hb : c.code = cc) (hP : va_P D vwCl (wd Y E σ 0 LC) H) (hdg : decode cc pc = .ok (.getfield 9, 3)) (kk : W p l e R s m args below meth c H locs cells slots Q (F0 m (pc + 3) ls (.ref (E 11) :: rest))) : W p l e R s m args below meth c H locs cells slots Q (F0 m pc ls (.ref (E 1) :: rest)) :=
  x_getR hC hb hP inGX7 lc_1 rfl 0 (by decide) rfl (gw_t (tb1 (List.mem_of_getElem? (i := 44) rfl)) rfl) rfl hdg kk
theorem gf_X7_15 {p : Program} {l : Launch} {e : Env} {R : Room} {s : State} {m : MethodId} {args : Array Value} {below : List Frame} {meth : Method} {c : Code} {H : Heap} {locs : List Loc} {cells slots : Nat} {Q : State → Prop} {D : va_G} {Y : CYs} {E : Nat → Nat} {σ : Sta} {cc : ByteArray} {pc : Nat} {ls : Array Slot} {rest : List Value} (hC : Ctx p s m args RX7 D Y) (hb : c.code = cc) (hP : va_P D vwCl (wd Y E σ 0 LC) H) (hdg : decode cc pc = .ok (.getfield 15, 3)) (kk : W p l e R s m args below meth c H locs cells slots Q (F0 m (pc + 3) ls (.ref (E 12) :: rest))) : W p l e R s m args below meth c H locs cells slots Q (F0 m pc ls (.ref (E 1) :: rest)) :=
  x_getR hC hb hP inGX7 lc_1 rfl 1 (by decide) rfl (gw_t (tb1 (List.mem_of_getElem? (i := 46) rfl)) rfl) rfl hdg kk
theorem gf_X7_18 {p : Program} {l : Launch} {e : Env} {R : Room} {s : State} {m : MethodId} {args : Array Value} {below : List Frame} {meth : Method} {c : Code} {H : Heap} {locs : List Loc} {cells slots : Nat} {Q : State → Prop} {D : va_G} {Y : CYs} {E : Nat → Nat} {σ : Sta} {cc : ByteArray} {pc : Nat} {ls : Array Slot} {rest : List Value} (hC : Ctx p s m args RX7 D Y) (hb : c.code = cc) (hP : va_P D vwCl (wd Y E σ 0 LC) H) (hdg : decode cc pc = .ok (.getfield 18, 3)) (kk : W p l e R s m args below meth c H locs cells slots Q (F0 m (pc + 3) ls (.ref (E 13) :: rest))) : W p l e R s m args below meth c H locs cells slots Q (F0 m pc ls (.ref (E 1) :: rest)) :=
  x_getR hC hb hP inGX7 lc_1 rfl 2 (by decide) rfl (gw_t (tb1 (List.mem_of_getElem? (i := 48) rfl)) rfl) rfl hdg kk
theorem pf_X7_22 {p : Program} {l : Launch} {e : Env} {R : Room} {s : State} {m : MethodId} {args : Array Value} {below : List Frame} {meth : Method} {c : Code} {H : Heap} {locs : List Loc} {cells slots : Nat} {Q : State → Prop} {D : va_G} {Y : CYs} {E : Nat → Nat} {σ : Sta} {cc : ByteArray} {pc : Nat} {ls : Array Slot} {rest : List Value} {A : Nat → Prop} {H0 : Heap} {x : Int32} (hC : Ctx p s m args RX7 D Y) (hb : c.code = cc) (hP : va_P D vwCl (wd Y E σ 0 LC) H) (hD : ∀ τ, va_D A (wd Y E τ 0 LC)) (hS : va_S A H0 H locs) (hdg : decode cc pc = .ok (.putfield 22, 3)) (kk : ∀ (H1 : Heap) (locs1 : List Loc) (τ : Sta), τ = sI σ 67 x → va_P D vwCl (wd Y E τ 0 LC) H1 → va_S A H0 H1 locs1 → W p l e R s m args below meth c H1 locs1 cells slots Q (F0 m (pc + 3) ls rest)) : W p l e R s m args below meth c H locs cells slots Q (F0 m pc ls (.int x :: .ref (E 1) :: rest)) :=
  x_putI lokC hC hb hP hD hS inGX7 tyX7 tyX7_ok nmX7 lc_1 rfl 3 (by decide) rfl (gw_t (tb1 (List.mem_of_getElem? (i := 49) rfl)) rfl) rfl rfl rfl rfl rfl hdg kk
theorem cw_X7_34 {R : Room} {p : Program} {s : State} {m : MethodId} {args : Array Value} {D : va_G} {Y : CYs} {rm : Room} (hC : Ctx p s m args RX7 D Y) (hrc : rm.cells = 0) (hrs : rm.slots = 0) (hR : rm.frames + 1 ≤ R.frames ∧ 8 + (1 + 11) + rm.locals ≤ R.locals) : CallB R s args RX7 34 yX7_isLetter cX7_isLetter 1 (some .boolean) (Cond.code yX7_isLetter cX7_isLetter 1 (some .boolean) :: gW) rm 0 0 1 ∧ (Cond.static yX7_isLetter).before args s = true :=
  ⟨callB_of 1 hC.2.1 (gi_law (gw_t (tb5 (List.mem_of_getElem? (i := 91) rfl)) rfl)) rfl hrc hrs (hC.2.1 (Cond.initialized RX7) (gw_t (tb1 (List.mem_of_getElem? (i := 2) rfl)) rfl)) (hC.2.1 (Cond.methodLink RX7 34 yX7_isLetter) (gw_t (tb5 (List.mem_of_getElem? (i := 89) rfl)) rfl)) ⟨by decide +kernel, by decide +kernel, by decide +kernel⟩ hR, hC.2.1 (Cond.static yX7_isLetter) (gw_t (tb5 (List.mem_of_getElem? (i := 90) rfl)) rfl)⟩
theorem cw_X7_41 {R : Room} {p : Program} {s : State} {m : MethodId} {args : Array Value} {D : va_G} {Y : CYs} {rm : Room} (hC : Ctx p s m args RX7 D Y) (hrc : rm.cells = 0) (hrs : rm.slots = 0) (hR : rm.frames + 1 ≤ R.frames ∧ 8 + (1 + 11) + rm.locals ≤ R.locals) : CallB R s args RX7 41 yX7_isDigit cX7_isDigit 1 (some .boolean) (Cond.code yX7_isDigit cX7_isDigit 1 (some .boolean) :: gW) rm 0 0 1 ∧ (Cond.static yX7_isDigit).before args s = true :=
  ⟨callB_of 1 hC.2.1 (gi_law (gw_t (tb5 (List.mem_of_getElem? (i := 98) rfl)) rfl)) rfl hrc hrs (hC.2.1 (Cond.initialized RX7) (gw_t (tb1 (List.mem_of_getElem? (i := 2) rfl)) rfl)) (hC.2.1 (Cond.methodLink RX7 41 yX7_isDigit) (gw_t (tb5 (List.mem_of_getElem? (i := 96) rfl)) rfl)) ⟨by decide +kernel, by decide +kernel, by decide +kernel⟩ hR, hC.2.1 (Cond.static yX7_isDigit) (gw_t (tb5 (List.mem_of_getElem? (i := 97) rfl)) rfl)⟩
theorem cw_X7_52 {R : Room} {p : Program} {s : State} {m : MethodId} {args : Array Value} {D : va_G} {Y : CYs} {rm : Room} (hC : Ctx p s m args RX7 D Y) (hrc : rm.cells = 0) (hrs : rm.slots = 0) (hR : rm.frames + 1 ≤ R.frames ∧ 8 + (7 + 11) + rm.locals ≤ R.locals) : CallB R s args RX7 52 yX7_kindOfWord cX7_kindOfWord 7 (some .int) (Cond.code yX7_kindOfWord cX7_kindOfWord 7 (some .int) :: gW) rm 0 0 1 ∧ (Cond.static yX7_kindOfWord).before args s = true :=
  ⟨callB_of 1 hC.2.1 (gi_law (gw_t (tb5 (List.mem_of_getElem? (i := 102) rfl)) rfl)) rfl hrc hrs (hC.2.1 (Cond.initialized RX7) (gw_t (tb1 (List.mem_of_getElem? (i := 2) rfl)) rfl)) (hC.2.1 (Cond.methodLink RX7 52 yX7_kindOfWord) (gw_t (tb5 (List.mem_of_getElem? (i := 100) rfl)) rfl)) ⟨by decide +kernel, by decide +kernel, by decide +kernel⟩ hR, hC.2.1 (Cond.static yX7_kindOfWord) (gw_t (tb5 (List.mem_of_getElem? (i := 101) rfl)) rfl)⟩
theorem cw_X7_30 {R : Room} {p : Program} {s : State} {m : MethodId} {args : Array Value} {D : va_G} {Y : CYs} {rm : Room} (hC : Ctx p s m args RX7 D Y) (hrc : rm.cells = 0) (hrs : rm.slots = 0) (hR : rm.frames + 1 ≤ R.frames ∧ 8 + (5 + 11) + rm.locals ≤ R.locals) : CallW R s args RX7 RX7 30 yX7_put cX7_put 5 none (Cond.code yX7_put cX7_put 5 none :: gW) rm 0 0 3 :=
  cwV 3 hC.2.1 (gi_V (gw_t (tb5 (List.mem_of_getElem? (i := 106) rfl)) rfl) (gw_t (tb5 (List.mem_of_getElem? (i := 108) rfl)) rfl) (gw_s (q := (⟨"MarkovBench$Tokens", "put", "(IIJ)V"⟩, 4)) (lp2_ (List.mem_of_getElem? (i := 6) rfl))) (gw_t (tb1 (List.mem_of_getElem? (i := 2) rfl)) rfl) (gw_t (tb5 (List.mem_of_getElem? (i := 109) rfl)) rfl)) rfl hrc hrs ⟨rfl, by decide +kernel, by decide +kernel, by decide +kernel⟩ hR
theorem cw_X7_58 {R : Room} {p : Program} {s : State} {m : MethodId} {args : Array Value} {D : va_G} {Y : CYs} {rm : Room} (hC : Ctx p s m args RX7 D Y) (hrc : rm.cells = 0) (hrs : rm.slots = 0) (hR : rm.frames + 1 ≤ R.frames ∧ 8 + (2 + 11) + rm.locals ≤ R.locals) : CallB R s args RX7 58 yX7_kindOfPair cX7_kindOfPair 2 (some .int) (Cond.code yX7_kindOfPair cX7_kindOfPair 2 (some .int) :: gW) rm 0 0 2 ∧ (Cond.static yX7_kindOfPair).before args s = true :=
  ⟨callB_of 2 hC.2.1 (gi_law (gw_t (tb5 (List.mem_of_getElem? (i := 121) rfl)) rfl)) rfl hrc hrs (hC.2.1 (Cond.initialized RX7) (gw_t (tb1 (List.mem_of_getElem? (i := 2) rfl)) rfl)) (hC.2.1 (Cond.methodLink RX7 58 yX7_kindOfPair) (gw_t (tb5 (List.mem_of_getElem? (i := 119) rfl)) rfl)) ⟨by decide +kernel, by decide +kernel, by decide +kernel⟩ hR, hC.2.1 (Cond.static yX7_kindOfPair) (gw_t (tb5 (List.mem_of_getElem? (i := 120) rfl)) rfl)⟩
theorem cw_X7_64 {R : Room} {p : Program} {s : State} {m : MethodId} {args : Array Value} {D : va_G} {Y : CYs} {rm : Room} (hC : Ctx p s m args RX7 D Y) (hrc : rm.cells = 0) (hrs : rm.slots = 0) (hR : rm.frames + 1 ≤ R.frames ∧ 8 + (2 + 11) + rm.locals ≤ R.locals) : CallW R s args RX7 RJ0 64 yJ0_indexOf_0f7a4 cJ0_indexOf_0f7a4 2 (some .int) (Cond.code yJ0_indexOf_0f7a4 cJ0_indexOf_0f7a4 2 (some .int) :: gW) rm 0 0 1 :=
  cwV 1 hC.2.1 (gi_V (gw_t (tb5 (List.mem_of_getElem? (i := 123) rfl)) rfl) (gw_t (tb5 (List.mem_of_getElem? (i := 124) rfl)) rfl) (gw_t (tb5 (List.mem_of_getElem? (i := 125) rfl)) rfl) (gw_t (tb1 (List.mem_of_getElem? (i := 13) rfl)) rfl) (gw_t (tb5 (List.mem_of_getElem? (i := 126) rfl)) rfl)) rfl hrc hrs ⟨rfl, by decide +kernel, by decide +kernel, by decide +kernel⟩ hR
theorem cw_X7_47 {R : Room} {p : Program} {s : State} {m : MethodId} {args : Array Value} {D : va_G} {Y : CYs} {rm : Room} (hC : Ctx p s m args RX7 D Y) (hrc : rm.cells = 0) (hrs : rm.slots = 0) (hR : rm.frames + 1 ≤ R.frames ∧ 8 + (7 + 11) + rm.locals ≤ R.locals) : CallW R s args RX7 RX7 47 yX7_readSymbol cX7_readSymbol 7 (some .int) (Cond.code yX7_readSymbol cX7_readSymbol 7 (some .int) :: gW) rm 0 0 3 :=
  cwV 3 hC.2.1 (gi_V (gw_t (tb5 (List.mem_of_getElem? (i := 115) rfl)) rfl) (gw_t (tb5 (List.mem_of_getElem? (i := 117) rfl)) rfl) (gw_s (q := (⟨"MarkovBench$Tokens", "readSymbol", "([III)I"⟩, 4)) (lp2_ (List.mem_of_getElem? (i := 8) rfl))) (gw_t (tb1 (List.mem_of_getElem? (i := 2) rfl)) rfl) (gw_t (tb5 (List.mem_of_getElem? (i := 118) rfl)) rfl)) rfl hrc hrs ⟨rfl, by decide +kernel, by decide +kernel, by decide +kernel⟩ hR
theorem cw_X7_44 {R : Room} {p : Program} {s : State} {m : MethodId} {args : Array Value} {D : va_G} {Y : CYs} {rm : Room} (hC : Ctx p s m args RX7 D Y) (hrc : rm.cells = 0) (hrs : rm.slots = 0) (hR : rm.frames + 1 ≤ R.frames ∧ 8 + (7 + 11) + rm.locals ≤ R.locals) : CallW R s args RX7 RX7 44 yX7_readNumber cX7_readNumber 7 (some .int) (Cond.code yX7_readNumber cX7_readNumber 7 (some .int) :: gW) rm 0 0 3 :=
  cwV 3 hC.2.1 (gi_V (gw_t (tb5 (List.mem_of_getElem? (i := 110) rfl)) rfl) (gw_t (tb5 (List.mem_of_getElem? (i := 112) rfl)) rfl) (gw_s (q := (⟨"MarkovBench$Tokens", "readNumber", "([III)I"⟩, 4)) (lp2_ (List.mem_of_getElem? (i := 7) rfl))) (gw_t (tb1 (List.mem_of_getElem? (i := 2) rfl)) rfl) (gw_t (tb5 (List.mem_of_getElem? (i := 113) rfl)) rfl)) rfl hrc hrs ⟨rfl, by decide +kernel, by decide +kernel, by decide +kernel⟩ hR
theorem cw_X7_38 {R : Room} {p : Program} {s : State} {m : MethodId} {args : Array Value} {D : va_G} {Y : CYs} {rm : Room} (hC : Ctx p s m args RX7 D Y) (hrc : rm.cells = 0) (hrs : rm.slots = 0) (hR : rm.frames + 1 ≤ R.frames ∧ 8 + (7 + 11) + rm.locals ≤ R.locals) : CallW R s args RX7 RX7 38 yX7_readWord cX7_readWord 7 (some .int) (Cond.code yX7_readWord cX7_readWord 7 (some .int) :: gW) rm 0 0 3 :=
  cwV 3 hC.2.1 (gi_V (gw_t (tb5 (List.mem_of_getElem? (i := 92) rfl)) rfl) (gw_t (tb5 (List.mem_of_getElem? (i := 94) rfl)) rfl) (gw_s (q := (⟨"MarkovBench$Tokens", "readWord", "([III)I"⟩, 4)) (lp2_ (List.mem_of_getElem? (i := 5) rfl))) (gw_t (tb1 (List.mem_of_getElem? (i := 2) rfl)) rfl) (gw_t (tb5 (List.mem_of_getElem? (i := 95) rfl)) rfl)) rfl hrc hrs ⟨rfl, by decide +kernel, by decide +kernel, by decide +kernel⟩ hR
theorem cw_X7_26 {R : Room} {p : Program} {s : State} {m : MethodId} {args : Array Value} {D : va_G} {Y : CYs} {rm : Room} (hC : Ctx p s m args RX7 D Y) (hrc : rm.cells = 0) (hrs : rm.slots = 0) (hR : rm.frames + 1 ≤ R.frames ∧ 8 + (5 + 11) + rm.locals ≤ R.locals) : CallW R s args RX7 RX7 26 yX7_readOne cX7_readOne 5 (some .int) (Cond.code yX7_readOne cX7_readOne 5 (some .int) :: gW) rm 0 0 3 :=
  cwV 3 hC.2.1 (gi_V (gw_t (tb5 (List.mem_of_getElem? (i := 85) rfl)) rfl) (gw_t (tb5 (List.mem_of_getElem? (i := 87) rfl)) rfl) (gw_s (q := (⟨"MarkovBench$Tokens", "readOne", "([III)I"⟩, 4)) (lp2_ (List.mem_of_getElem? (i := 4) rfl))) (gw_t (tb1 (List.mem_of_getElem? (i := 2) rfl)) rfl) (gw_t (tb5 (List.mem_of_getElem? (i := 88) rfl)) rfl)) rfl hrc hrs ⟨rfl, by decide +kernel, by decide +kernel, by decide +kernel⟩ hR
abbrev rm_X7_isLetter : Room := { frames := 0, cells := 0, slots := 0, locals := 0 }
def f_X7_isLetter_17 (s0 : Int32) (σ : Sta) : Option (Int32 × Sta) :=
  if ¬ (s0 = 0 ∨ s0 = 1) then none else (
  some (s0, σ))
set_option maxHeartbeats 4000000 in
set_option maxRecDepth 100000 in
theorem t_X7_isLetter_17 {l : Launch} {D : va_G} {Y : CYs} {E : Nat → Nat} {p : Program} {e : Env} {s : State} {m : MethodId} {args : Array Value} {below : List Frame} {meth : Method} {c : Code} (hF : Fr p s m args meth c RX7 cX7_isLetter 1 (some .boolean) D Y E LC) {o : Int32 × Sta} : ∀ (s0 : Int32) (σ : Sta) (H : Heap) (locs : List Loc) (ls : Array Slot), f_X7_isLetter_17 s0 σ = some o → va_P D vwCl (wd Y E σ 0 LC) H → va_S (AF E LC.length s.heap.size) s.heap H locs → lv_has ls 1 [] → WI p l e rm_X7_isLetter s m args below meth c LC Y D E o H locs (F0 m 17 ls [.int s0]) := by
  intro s0 σ H locs ls h hP hS hl
  unfold f_X7_isLetter_17 at h
  obtain ⟨hC, hb, hml, hr, hlk, hD, hSW⟩ := id hF
  have hx := hC.1
  obtain ⟨g1, h⟩ := of_gd h
  exact x_zret hF hP hS (zb g1) h dX7_isLetter_17

def f_X7_isLetter_16 (σ : Sta) : Option (Int32 × Sta) :=
  f_X7_isLetter_17 0 σ
set_option maxHeartbeats 4000000 in
set_option maxRecDepth 100000 in
theorem t_X7_isLetter_16 {l : Launch} {D : va_G} {Y : CYs} {E : Nat → Nat} {p : Program} {e : Env} {s : State} {m : MethodId} {args : Array Value} {below : List Frame} {meth : Method} {c : Code} (hF : Fr p s m args meth c RX7 cX7_isLetter 1 (some .boolean) D Y E LC) {o : Int32 × Sta} : ∀ (σ : Sta) (H : Heap) (locs : List Loc) (ls : Array Slot), f_X7_isLetter_16 σ = some o → va_P D vwCl (wd Y E σ 0 LC) H → va_S (AF E LC.length s.heap.size) s.heap H locs → lv_has ls 1 [] → WI p l e rm_X7_isLetter s m args below meth c LC Y D E o H locs (F0 m 16 ls []) := by
  intro σ H locs ls h hP hS hl
  unfold f_X7_isLetter_16 at h
  obtain ⟨hC, hb, hml, hr, hlk, hD, hSW⟩ := id hF
  have hx := hC.1
  refine lv_iconst (v := 0) hx hb dX7_isLetter_16 (by decide) ?_
  exact t_X7_isLetter_17  hF 0 σ _ _ _ h hP hS (lv_sub hl [] rfl)

def f_X7_isLetter (a0 : Int32) (σ : Sta) : Option (Int32 × Sta) :=
  if a0 < 97 then
    f_X7_isLetter_16 σ
  else
    if 122 < a0 then
      f_X7_isLetter_16 σ
    else
      f_X7_isLetter_17 1 σ
set_option maxHeartbeats 4000000 in
set_option maxRecDepth 100000 in
theorem c_X7_isLetter {l : Launch} {D : va_G} {Y : CYs} {E : Nat → Nat} {a0 : Int32} {σ : Sta} {o : Int32 × Sta} (h : f_X7_isLetter a0 σ = some o) : MI l yX7_isLetter (Cond.code yX7_isLetter cX7_isLetter 1 (some .boolean) :: gW) rm_X7_isLetter LC Y D E [.int a0] σ o := by
  intro sz
  refine Met_of (Qc := fun sz => QI LC Y D E sz o) (by decide) (Nat.le_of_ble_eq_true rfl) (fun p e s m args below meth c hF hP ls hl => ?_) sz
  have hS : va_S (AF E LC.length s.heap.size) s.heap s.heap [] := va_S.rf
  have hl : lv_has ls 1 [(0, .int a0)] := hl
  show WI p l e rm_X7_isLetter s m args below meth c LC Y D E o s.heap [] (F0 m 0 ls [])
  unfold f_X7_isLetter at h
  obtain ⟨hC, hb, hml, hr, hlk, hD, hSW⟩ := id hF
  have hx := hC.1
  refine lv_iload_n hx hb dX7_isLetter_0 rfl (lv_at hl 0 rfl) ?_
  refine lv_bipush (v := 97) hx hb dX7_isLetter_1 (by decide) ?_
  refine lv_icmp_lt (tgt := 16) hx hb dX7_isLetter_3 (by decide) (fun c1 => ?_) (fun c1 => ?_)
  · have h := of_t h c1
    exact t_X7_isLetter_16  hF σ _ _ _ h hP hS (lv_sub hl [] rfl)
  · have h := of_f h c1
    refine lv_iload_n hx hb dX7_isLetter_6 rfl (lv_at hl 0 rfl) ?_
    refine lv_bipush (v := 122) hx hb dX7_isLetter_7 (by decide) ?_
    refine lv_icmp_gt (tgt := 16) hx hb dX7_isLetter_9 (by decide) (fun c2 => ?_) (fun c2 => ?_)
    · have h := of_t h c2
      exact t_X7_isLetter_16  hF σ _ _ _ h hP hS (lv_sub hl [] rfl)
    · have h := of_f h c2
      refine lv_iconst (v := 1) hx hb dX7_isLetter_12 (by decide) ?_
      refine lv_goto (tgt := 17) hx hb dX7_isLetter_13 (by decide) ?_
      exact t_X7_isLetter_17  hF 1 σ _ _ _ h hP hS (lv_sub hl [] rfl)

abbrev rm_X7_isDigit : Room := { frames := 0, cells := 0, slots := 0, locals := 0 }
def f_X7_isDigit_17 (s0 : Int32) (σ : Sta) : Option (Int32 × Sta) :=
  if ¬ (s0 = 0 ∨ s0 = 1) then none else (
  some (s0, σ))
set_option maxHeartbeats 4000000 in
set_option maxRecDepth 100000 in
theorem t_X7_isDigit_17 {l : Launch} {D : va_G} {Y : CYs} {E : Nat → Nat} {p : Program} {e : Env} {s : State} {m : MethodId} {args : Array Value} {below : List Frame} {meth : Method} {c : Code} (hF : Fr p s m args meth c RX7 cX7_isDigit 1 (some .boolean) D Y E LC) {o : Int32 × Sta} : ∀ (s0 : Int32) (σ : Sta) (H : Heap) (locs : List Loc) (ls : Array Slot), f_X7_isDigit_17 s0 σ = some o → va_P D vwCl (wd Y E σ 0 LC) H → va_S (AF E LC.length s.heap.size) s.heap H locs → lv_has ls 1 [] → WI p l e rm_X7_isDigit s m args below meth c LC Y D E o H locs (F0 m 17 ls [.int s0]) := by
  intro s0 σ H locs ls h hP hS hl
  unfold f_X7_isDigit_17 at h
  obtain ⟨hC, hb, hml, hr, hlk, hD, hSW⟩ := id hF
  have hx := hC.1
  obtain ⟨g1, h⟩ := of_gd h
  exact x_zret hF hP hS (zb g1) h dX7_isDigit_17

def f_X7_isDigit_16 (σ : Sta) : Option (Int32 × Sta) :=
  f_X7_isDigit_17 0 σ
set_option maxHeartbeats 4000000 in
set_option maxRecDepth 100000 in
theorem t_X7_isDigit_16 {l : Launch} {D : va_G} {Y : CYs} {E : Nat → Nat} {p : Program} {e : Env} {s : State} {m : MethodId} {args : Array Value} {below : List Frame} {meth : Method} {c : Code} (hF : Fr p s m args meth c RX7 cX7_isDigit 1 (some .boolean) D Y E LC) {o : Int32 × Sta} : ∀ (σ : Sta) (H : Heap) (locs : List Loc) (ls : Array Slot), f_X7_isDigit_16 σ = some o → va_P D vwCl (wd Y E σ 0 LC) H → va_S (AF E LC.length s.heap.size) s.heap H locs → lv_has ls 1 [] → WI p l e rm_X7_isDigit s m args below meth c LC Y D E o H locs (F0 m 16 ls []) := by
  intro σ H locs ls h hP hS hl
  unfold f_X7_isDigit_16 at h
  obtain ⟨hC, hb, hml, hr, hlk, hD, hSW⟩ := id hF
  have hx := hC.1
  refine lv_iconst (v := 0) hx hb dX7_isDigit_16 (by decide) ?_
  exact t_X7_isDigit_17  hF 0 σ _ _ _ h hP hS (lv_sub hl [] rfl)

def f_X7_isDigit (a0 : Int32) (σ : Sta) : Option (Int32 × Sta) :=
  if a0 < 48 then
    f_X7_isDigit_16 σ
  else
    if 57 < a0 then
      f_X7_isDigit_16 σ
    else
      f_X7_isDigit_17 1 σ
set_option maxHeartbeats 4000000 in
set_option maxRecDepth 100000 in
theorem c_X7_isDigit {l : Launch} {D : va_G} {Y : CYs} {E : Nat → Nat} {a0 : Int32} {σ : Sta} {o : Int32 × Sta} (h : f_X7_isDigit a0 σ = some o) : MI l yX7_isDigit (Cond.code yX7_isDigit cX7_isDigit 1 (some .boolean) :: gW) rm_X7_isDigit LC Y D E [.int a0] σ o := by
  intro sz
  refine Met_of (Qc := fun sz => QI LC Y D E sz o) (by decide) (Nat.le_of_ble_eq_true rfl) (fun p e s m args below meth c hF hP ls hl => ?_) sz
  have hS : va_S (AF E LC.length s.heap.size) s.heap s.heap [] := va_S.rf
  have hl : lv_has ls 1 [(0, .int a0)] := hl
  show WI p l e rm_X7_isDigit s m args below meth c LC Y D E o s.heap [] (F0 m 0 ls [])
  unfold f_X7_isDigit at h
  obtain ⟨hC, hb, hml, hr, hlk, hD, hSW⟩ := id hF
  have hx := hC.1
  refine lv_iload_n hx hb dX7_isDigit_0 rfl (lv_at hl 0 rfl) ?_
  refine lv_bipush (v := 48) hx hb dX7_isDigit_1 (by decide) ?_
  refine lv_icmp_lt (tgt := 16) hx hb dX7_isDigit_3 (by decide) (fun c1 => ?_) (fun c1 => ?_)
  · have h := of_t h c1
    exact t_X7_isDigit_16  hF σ _ _ _ h hP hS (lv_sub hl [] rfl)
  · have h := of_f h c1
    refine lv_iload_n hx hb dX7_isDigit_6 rfl (lv_at hl 0 rfl) ?_
    refine lv_bipush (v := 57) hx hb dX7_isDigit_7 (by decide) ?_
    refine lv_icmp_gt (tgt := 16) hx hb dX7_isDigit_9 (by decide) (fun c2 => ?_) (fun c2 => ?_)
    · have h := of_t h c2
      exact t_X7_isDigit_16  hF σ _ _ _ h hP hS (lv_sub hl [] rfl)
    · have h := of_f h c2
      refine lv_iconst (v := 1) hx hb dX7_isDigit_12 (by decide) ?_
      refine lv_goto (tgt := 17) hx hb dX7_isDigit_13 (by decide) ?_
      exact t_X7_isDigit_17  hF 1 σ _ _ _ h hP hS (lv_sub hl [] rfl)

abbrev rm_X7_kindOfWord : Room := { frames := 5, cells := 0, slots := 0, locals := 112 }
def f_X7_kindOfWord_61 (k9 : Int64 → Int32 → Int64 → Int32 → Sta → Option (Int32 × Sta)) (v0 : Int64) (v2 : Int32) (v3 : Int64) (v5 : Int32) (σ : Sta) : Option (Int32 × Sta) :=
  lt (v5 + 1) (fun x1 =>
  k9 v0 v2 v3 x1 σ)
set_option maxHeartbeats 4000000 in
set_option maxRecDepth 100000 in
theorem t_X7_kindOfWord_61 {l : Launch} {D : va_G} {Y : CYs} {E : Nat → Nat} {p : Program} {e : Env} {s : State} {m : MethodId} {args : Array Value} {below : List Frame} {meth : Method} {c : Code} (hF : Fr p s m args meth c RX7 cX7_kindOfWord 7 (some .int) D Y E LC) {o : Int32 × Sta} (k9 : Int64 → Int32 → Int64 → Int32 → Sta → Option (Int32 × Sta)) (hk9 : ∀ (v0 : Int64) (v2 : Int32) (v3 : Int64) (v5 : Int32) (σ : Sta) (H : Heap) (locs : List Loc) (ls : Array Slot), k9 v0 v2 v3 v5 σ = some o → va_P D vwCl (wd Y E σ 0 LC) H → va_S (AF E LC.length s.heap.size) s.heap H locs → lv_has ls 7 [(0, .long v0), (2, .int v2), (3, .long v3), (5, .int v5)] → WI p l e rm_X7_kindOfWord s m args below meth c LC Y D E o H locs (F0 m 9 ls [])) : ∀ (v0 : Int64) (v2 : Int32) (v3 : Int64) (v5 : Int32) (σ : Sta) (H : Heap) (locs : List Loc) (ls : Array Slot), f_X7_kindOfWord_61 k9 v0 v2 v3 v5 σ = some o → va_P D vwCl (wd Y E σ 0 LC) H → va_S (AF E LC.length s.heap.size) s.heap H locs → lv_has ls 7 [(0, .long v0), (2, .int v2), (3, .long v3), (5, .int v5)] → WI p l e rm_X7_kindOfWord s m args below meth c LC Y D E o H locs (F0 m 61 ls []) := by
  intro v0 v2 v3 v5 σ H locs ls h hP hS hl
  unfold f_X7_kindOfWord_61 at h
  obtain ⟨hC, hb, hml, hr, hlk, hD, hSW⟩ := id hF
  have hx := hC.1
  obtain ⟨x1, ex1⟩ : ∃ y : Int32, y = v5 + 1 := ⟨_, rfl⟩
  have h := of_lt h ex1
  refine lv_iinc (v := x1) (lv' := [(5, .int x1), (0, .long v0), (2, .int v2), (3, .long v3)]) hx hb dX7_kindOfWord_61 hl (k := 3) rfl (by rw [ex1]; rfl) (by decide) rfl (fun ls hl => ?_)
  refine lv_goto (tgt := 9) hx hb dX7_kindOfWord_64 (by decide) ?_
  exact hk9 v0 v2 v3 x1 σ _ _ _ h hP hS (lv_sub hl [1, 2, 3, 0] rfl)

def f_X7_kindOfWord_9 : Nat → Int64 → Int32 → Int64 → Int32 → Sta → Option (Int32 × Sta)
  | 0, _, _, _, _, _ => none
  | n + 1, v0, v2, v3, v5, σ => bnd (f_J0_length_8abf5 67 bKW σ) (fun r2 σ3 =>
    if r2 ≤ v5 then
      some (273, σ3)
    else
      bnd (f_J0_charAt_5068e 67 bKW v5 σ3) (fun r7 σ8 =>
      if r7 = 32 then
        if lg_cmp v3 v0 = 0 then
          some (v2, σ8)
        else
          lt (v2 + 1) (fun x12 =>
          f_X7_kindOfWord_61 (f_X7_kindOfWord_9 n) v0 x12 0 v5 σ8)
      else
        lt ((v3 * 256) + r7.toInt64) (fun x13 =>
        f_X7_kindOfWord_61 (f_X7_kindOfWord_9 n) v0 v2 x13 v5 σ8)))
set_option maxHeartbeats 4000000 in
set_option maxRecDepth 100000 in
theorem t_X7_kindOfWord_9 {l : Launch} {D : va_G} {Y : CYs} {E : Nat → Nat} {p : Program} {e : Env} {s : State} {m : MethodId} {args : Array Value} {below : List Frame} {meth : Method} {c : Code} (hF : Fr p s m args meth c RX7 cX7_kindOfWord 7 (some .int) D Y E LC) {o : Int32 × Sta} : ∀ (n : Nat) (v0 : Int64) (v2 : Int32) (v3 : Int64) (v5 : Int32) (σ : Sta) (H : Heap) (locs : List Loc) (ls : Array Slot), f_X7_kindOfWord_9 n v0 v2 v3 v5 σ = some o → va_P D vwCl (wd Y E σ 0 LC) H → va_S (AF E LC.length s.heap.size) s.heap H locs → lv_has ls 7 [(0, .long v0), (2, .int v2), (3, .long v3), (5, .int v5)] → WI p l e rm_X7_kindOfWord s m args below meth c LC Y D E o H locs (F0 m 9 ls []) := by
  intro n
  induction n with
  | zero =>
    intro v0 v2 v3 v5 σ H locs ls h hP hS hl
    exact nomatch (show (none : Option (Int32 × Sta)) = some o from h)
  | succ n ih =>
    intro v0 v2 v3 v5 σ H locs ls h hP hS hl
    rw [f_X7_kindOfWord_9] at h
    obtain ⟨hC, hb, hml, hr, hlk, hD, hSW⟩ := id hF
    have hx := hC.1
    refine lv_iload hx hb dX7_kindOfWord_9 (lv_at hl 3 rfl) ?_
    obtain ⟨a1, v1, hRa1, hSTa1⟩ := hSW.1 _ (List.mem_of_getElem? (i := 0) rfl)
    refine va_ldcS hx hb hC.2.2.1 hRa1 dX7_kindOfWord_11 ?_
    obtain ⟨r2, σ3, g4, h⟩ := of_bnd h
    refine x_VIs (As := []) (rest := [.int v5]) hF hSTa1 hl hP hS (c_J0_length_8abf5 lokC g4) (cw_X7_72 hC rfl rfl ⟨Nat.le_of_ble_eq_true rfl, Nat.le_of_ble_eq_true rfl⟩) rfl rfl (Nat.le_of_ble_eq_true rfl) dX7_kindOfWord_13 ⟨Nat.zero_le _, Nat.zero_le _⟩ (fun H locs hP hS => ?_)
    refine lv_icmp_ge (tgt := 67) hx hb dX7_kindOfWord_16 (by decide) (fun c5 => ?_) (fun c5 => ?_)
    · have h := of_t h c5
      refine lv_sipush (v := 273) hx hb dX7_kindOfWord_67 (by decide) ?_
      exact x_iret hF hP hS h dX7_kindOfWord_70
    · have h := of_f h c5
      obtain ⟨a6, v6, hRa6, hSTa6⟩ := hSW.1 _ (List.mem_of_getElem? (i := 0) rfl)
      refine va_ldcS hx hb hC.2.2.1 hRa6 dX7_kindOfWord_19 ?_
      refine lv_iload hx hb dX7_kindOfWord_21 (lv_at hl 3 rfl) ?_
      obtain ⟨r7, σ8, g9, h⟩ := of_bnd h
      refine x_VIs (As := [.int v5]) (rest := []) hF hSTa6 hl hP hS (c_J0_charAt_5068e lokC g9) (cw_X7_76 hC rfl rfl ⟨Nat.le_of_ble_eq_true rfl, Nat.le_of_ble_eq_true rfl⟩) rfl rfl (Nat.le_of_ble_eq_true rfl) dX7_kindOfWord_23 ⟨Nat.zero_le _, Nat.zero_le _⟩ (fun H locs hP hS => ?_)
      refine lv_istore (lv' := [(6, .int r7), (0, .long v0), (2, .int v2), (3, .long v3), (5, .int v5)]) hx hb dX7_kindOfWord_26 hl (by decide) rfl (fun ls hl => ?_)
      refine lv_iload hx hb dX7_kindOfWord_28 (lv_at hl 0 rfl) ?_
      refine lv_bipush (v := 32) hx hb dX7_kindOfWord_30 (by decide) ?_
      refine lv_icmp_eq (tgt := 48) hx hb dX7_kindOfWord_32 (by decide) (fun c10 => ?_) (fun c10 => ?_)
      · have h := of_t h c10
        refine lv_lload_n hx hb dX7_kindOfWord_48 rfl (lv_at hl 3 rfl) ?_
        refine lv_lload_n hx hb dX7_kindOfWord_49 rfl (lv_at hl 1 rfl) ?_
        refine W.lcmp hx hb dX7_kindOfWord_50 ?_
        refine lv_if_ne (tgt := 56) hx hb dX7_kindOfWord_51 (by decide) (fun c11 => ?_) (fun c11 => ?_)
        · have h := of_f h c11
          refine lv_lconst (v := 0) hx hb dX7_kindOfWord_56 (by decide) ?_
          refine lv_lstore_n (lv' := [(3, .long 0), (6, .int r7), (0, .long v0), (2, .int v2), (5, .int v5)]) hx hb dX7_kindOfWord_57 rfl hl (by decide) rfl (fun ls hl => ?_)
          obtain ⟨x12, ex12⟩ : ∃ y : Int32, y = v2 + 1 := ⟨_, rfl⟩
          have h := of_lt h ex12
          refine lv_iinc (v := x12) (lv' := [(2, .int x12), (3, .long 0), (6, .int r7), (0, .long v0), (5, .int v5)]) hx hb dX7_kindOfWord_58 hl (k := 3) rfl (by rw [ex12]; rfl) (by decide) rfl (fun ls hl => ?_)
          exact t_X7_kindOfWord_61  hF (f_X7_kindOfWord_9 n) ih v0 x12 0 v5 σ8 _ _ _ h hP hS (lv_sub hl [3, 0, 1, 4] rfl)
        · have h := of_t h c11
          refine lv_iload_n hx hb dX7_kindOfWord_54 rfl (lv_at hl 2 rfl) ?_
          exact x_iret hF hP hS h dX7_kindOfWord_55
      · have h := of_f h c10
        refine lv_lload_n hx hb dX7_kindOfWord_35 rfl (lv_at hl 3 rfl) ?_
        refine lv_ldc2 (v := 256) hx hb hC.2.2.1 (hC.2.1 (Cond.constantLong RX7 50 256) (gw_t (tb5 (List.mem_of_getElem? (i := 99) rfl)) rfl)) dX7_kindOfWord_36 ?_
        refine lv_lmul hx hb dX7_kindOfWord_39 ?_
        refine lv_iload hx hb dX7_kindOfWord_40 (lv_at hl 0 rfl) ?_
        refine lv_i2l (v := r7.toInt64) hx hb dX7_kindOfWord_42 rfl ?_
        refine lv_ladd hx hb dX7_kindOfWord_43 ?_
        refine lv_topl (fun x13 ex13 => ?_)
        have h := of_lt h ex13
        refine lv_lstore_n (lv' := [(3, .long x13), (6, .int r7), (0, .long v0), (2, .int v2), (5, .int v5)]) hx hb dX7_kindOfWord_44 rfl hl (by decide) rfl (fun ls hl => ?_)
        refine lv_goto (tgt := 61) hx hb dX7_kindOfWord_45 (by decide) ?_
        exact t_X7_kindOfWord_61  hF (f_X7_kindOfWord_9 n) ih v0 v2 x13 v5 σ8 _ _ _ h hP hS (lv_sub hl [2, 3, 0, 4] rfl)

def f_X7_kindOfWord (a0 : Int64) (σ : Sta) : Option (Int32 × Sta) :=
  f_X7_kindOfWord_9 FU a0 256 0 0 σ
set_option maxHeartbeats 4000000 in
set_option maxRecDepth 100000 in
theorem c_X7_kindOfWord {l : Launch} {D : va_G} {Y : CYs} {E : Nat → Nat} {a0 : Int64} {σ : Sta} {o : Int32 × Sta} (h : f_X7_kindOfWord a0 σ = some o) : MI l yX7_kindOfWord (Cond.code yX7_kindOfWord cX7_kindOfWord 7 (some .int) :: gW) rm_X7_kindOfWord LC Y D E [.long a0] σ o := by
  intro sz
  refine Met_of (Qc := fun sz => QI LC Y D E sz o) (by decide) (Nat.le_of_ble_eq_true rfl) (fun p e s m args below meth c hF hP ls hl => ?_) sz
  have hS : va_S (AF E LC.length s.heap.size) s.heap s.heap [] := va_S.rf
  have hl : lv_has ls 7 [(0, .long a0)] := hl
  show WI p l e rm_X7_kindOfWord s m args below meth c LC Y D E o s.heap [] (F0 m 0 ls [])
  unfold f_X7_kindOfWord at h
  obtain ⟨hC, hb, hml, hr, hlk, hD, hSW⟩ := id hF
  have hx := hC.1
  refine lv_sipush (v := 256) hx hb dX7_kindOfWord_0 (by decide) ?_
  refine lv_istore_n (lv' := [(2, .int 256), (0, .long a0)]) hx hb dX7_kindOfWord_3 rfl hl (by decide) rfl (fun ls hl => ?_)
  refine lv_lconst (v := 0) hx hb dX7_kindOfWord_4 (by decide) ?_
  refine lv_lstore_n (lv' := [(3, .long 0), (2, .int 256), (0, .long a0)]) hx hb dX7_kindOfWord_5 rfl hl (by decide) rfl (fun ls hl => ?_)
  refine lv_iconst (v := 0) hx hb dX7_kindOfWord_6 (by decide) ?_
  refine lv_istore (lv' := [(5, .int 0), (3, .long 0), (2, .int 256), (0, .long a0)]) hx hb dX7_kindOfWord_7 hl (by decide) rfl (fun ls hl => ?_)
  exact t_X7_kindOfWord_9  hF FU a0 256 0 0 σ _ _ _ h hP hS (lv_sub hl [3, 2, 1, 0] rfl)

abbrev rm_X7_put : Room := { frames := 0, cells := 0, slots := 0, locals := 0 }
def f_X7_put_52 (σ : Sta) : Option (Unit × Sta) :=
  some ((), σ)
set_option maxHeartbeats 4000000 in
set_option maxRecDepth 100000 in
theorem t_X7_put_52 {l : Launch} {D : va_G} {Y : CYs} {E : Nat → Nat} {p : Program} {e : Env} {s : State} {m : MethodId} {args : Array Value} {below : List Frame} {meth : Method} {c : Code} (hF : Fr p s m args meth c RX7 cX7_put 5 none D Y E LC) {o : Unit × Sta} : ∀ (σ : Sta) (H : Heap) (locs : List Loc) (ls : Array Slot), f_X7_put_52 σ = some o → va_P D vwCl (wd Y E σ 0 LC) H → va_S (AF E LC.length s.heap.size) s.heap H locs → lv_has ls 5 [] → WV p l e rm_X7_put s m args below meth c LC Y D E o H locs (F0 m 52 ls []) := by
  intro σ H locs ls h hP hS hl
  unfold f_X7_put_52 at h
  obtain ⟨hC, hb, hml, hr, hlk, hD, hSW⟩ := id hF
  have hx := hC.1
  exact x_vret hF hP hS h dX7_put_52

def f_X7_put (a1 : Int32) (a2 : Int32) (a3 : Int64) (σ : Sta) : Option (Unit × Sta) :=
  if 1501 ≤ gI σ 67 then
    f_X7_put_52 σ
  else
    if gI σ 67 < 0 ∨ 1501 ≤ ((gI σ 67).toNatClampNeg) then none else (
    lt (sA σ 11 (upd (gA σ 11) ((gI σ 67).toNatClampNeg) a1)) (fun σ3 =>
    if gI σ3 67 < 0 ∨ 1501 ≤ ((gI σ3 67).toNatClampNeg) then none else (
    lt (sA σ3 12 (upd (gA σ3 12) ((gI σ3 67).toNatClampNeg) a2)) (fun σ5 =>
    if gI σ5 67 < 0 ∨ 1501 ≤ ((gI σ5 67).toNatClampNeg) then none else (
    lt (sJ σ5 13 (vp_updL (gJ σ5 13) ((gI σ5 67).toNatClampNeg) a3)) (fun σ7 =>
    lt (sI σ7 67 ((gI σ7 67) + 1)) (fun σ8 =>
    f_X7_put_52 σ8)))))))
set_option maxHeartbeats 4000000 in
set_option maxRecDepth 100000 in
theorem c_X7_put {l : Launch} {D : va_G} {Y : CYs} {E : Nat → Nat} {a1 : Int32} {a2 : Int32} {a3 : Int64} {σ : Sta} {o : Unit × Sta} (h : f_X7_put a1 a2 a3 σ = some o) : MV l yX7_put (Cond.code yX7_put cX7_put 5 none :: gW) rm_X7_put LC Y D E [.ref (E 1), .int a1, .int a2, .long a3] σ o := by
  intro sz
  refine Met_of (Qc := fun sz => QV LC Y D E sz o) (by decide) (Nat.le_of_ble_eq_true rfl) (fun p e s m args below meth c hF hP ls hl => ?_) sz
  have hS : va_S (AF E LC.length s.heap.size) s.heap s.heap [] := va_S.rf
  have hl : lv_has ls 5 [(0, .ref (E 1)), (1, .int a1), (2, .int a2), (3, .long a3)] := hl
  show WV p l e rm_X7_put s m args below meth c LC Y D E o s.heap [] (F0 m 0 ls [])
  unfold f_X7_put at h
  obtain ⟨hC, hb, hml, hr, hlk, hD, hSW⟩ := id hF
  have hx := hC.1
  refine lv_aload_n hx hb dX7_put_0 rfl (lv_at hl 0 rfl) ?_
  refine gf_X7_22 hC hb hP dX7_put_1 ?_
  refine lv_aload_n hx hb dX7_put_4 rfl (lv_at hl 0 rfl) ?_
  refine gf_X7_9 hC hb hP dX7_put_5 ?_
  refine x_alen (v := 1501) hC hb hP lc_11 (Or.inl rfl) (by decide) dX7_put_8 ?_
  refine lv_icmp_ge (tgt := 52) hx hb dX7_put_9 (by decide) (fun c1 => ?_) (fun c1 => ?_)
  · have h := of_t h c1
    exact t_X7_put_52  hF σ _ _ _ h hP hS (lv_sub hl [] rfl)
  · have h := of_f h c1
    refine lv_aload_n hx hb dX7_put_12 rfl (lv_at hl 0 rfl) ?_
    refine gf_X7_9 hC hb hP dX7_put_13 ?_
    refine lv_aload_n hx hb dX7_put_16 rfl (lv_at hl 0 rfl) ?_
    refine gf_X7_22 hC hb hP dX7_put_17 ?_
    refine lv_iload_n hx hb dX7_put_20 rfl (lv_at hl 1 rfl) ?_
    obtain ⟨g2, h⟩ := of_gd h
    refine x_iast lokC hC hb hP hD hS lc_11 g2 dX7_put_21 (fun H locs σ3 eσ3 hP hS => ?_)
    have h := of_lt h eσ3
    refine lv_aload_n hx hb dX7_put_22 rfl (lv_at hl 0 rfl) ?_
    refine gf_X7_15 hC hb hP dX7_put_23 ?_
    refine lv_aload_n hx hb dX7_put_26 rfl (lv_at hl 0 rfl) ?_
    refine gf_X7_22 hC hb hP dX7_put_27 ?_
    refine lv_iload_n hx hb dX7_put_30 rfl (lv_at hl 2 rfl) ?_
    obtain ⟨g4, h⟩ := of_gd h
    refine x_iast lokC hC hb hP hD hS lc_12 g4 dX7_put_31 (fun H locs σ5 eσ5 hP hS => ?_)
    have h := of_lt h eσ5
    refine lv_aload_n hx hb dX7_put_32 rfl (lv_at hl 0 rfl) ?_
    refine gf_X7_18 hC hb hP dX7_put_33 ?_
    refine lv_aload_n hx hb dX7_put_36 rfl (lv_at hl 0 rfl) ?_
    refine gf_X7_22 hC hb hP dX7_put_37 ?_
    refine lv_lload_n hx hb dX7_put_40 rfl (lv_at hl 3 rfl) ?_
    obtain ⟨g6, h⟩ := of_gd h
    refine x_last lokC hC hb hP hD hS lc_13 g6 dX7_put_41 (fun H locs σ7 eσ7 hP hS => ?_)
    have h := of_lt h eσ7
    refine lv_aload_n hx hb dX7_put_42 rfl (lv_at hl 0 rfl) ?_
    refine lv_dup hx hb dX7_put_43 rfl ?_
    refine gf_X7_22 hC hb hP dX7_put_44 ?_
    refine lv_iconst (v := 1) hx hb dX7_put_47 (by decide) ?_
    refine lv_iadd hx hb dX7_put_48 ?_
    refine pf_X7_22 hC hb hP hD hS dX7_put_49 (fun H locs σ8 eσ8 hP hS => ?_)
    have h := of_lt h eσ8
    exact t_X7_put_52  hF σ8 _ _ _ h hP hS (lv_sub hl [] rfl)

abbrev rm_X7_readWord : Room := { frames := 6, cells := 0, slots := 0, locals := 138 }
def f_X7_readWord_32 (k6 : Int32 → Int32 → Int64 → Int32 → Sta → Option (Int32 × Sta)) (v2 : Int32) (v3 : Int32) (v4 : Int64) (v6 : Int32) (σ : Sta) : Option (Int32 × Sta) :=
  if v6 < 0 ∨ 1500 ≤ (v6.toNatClampNeg) then none else (
  lt ((v4 * 256) + ((gA σ 8 (v6.toNatClampNeg)).toInt64)) (fun x2 =>
  lt (v6 + 1) (fun x3 =>
  k6 v2 v3 x2 x3 σ)))
set_option maxHeartbeats 4000000 in
set_option maxRecDepth 100000 in
theorem t_X7_readWord_32 {l : Launch} {D : va_G} {Y : CYs} {E : Nat → Nat} {p : Program} {e : Env} {s : State} {m : MethodId} {args : Array Value} {below : List Frame} {meth : Method} {c : Code} (hF : Fr p s m args meth c RX7 cX7_readWord 7 (some .int) D Y E LC) {o : Int32 × Sta} (k6 : Int32 → Int32 → Int64 → Int32 → Sta → Option (Int32 × Sta)) (hk6 : ∀ (v2 : Int32) (v3 : Int32) (v4 : Int64) (v6 : Int32) (σ : Sta) (H : Heap) (locs : List Loc) (ls : Array Slot), k6 v2 v3 v4 v6 σ = some o → va_P D vwCl (wd Y E σ 0 LC) H → va_S (AF E LC.length s.heap.size) s.heap H locs → lv_has ls 7 [(0, .ref (E 1)), (1, .ref (E 8)), (2, .int v2), (3, .int v3), (4, .long v4), (6, .int v6)] → WI p l e rm_X7_readWord s m args below meth c LC Y D E o H locs (F0 m 6 ls [])) : ∀ (v2 : Int32) (v3 : Int32) (v4 : Int64) (v6 : Int32) (σ : Sta) (H : Heap) (locs : List Loc) (ls : Array Slot), f_X7_readWord_32 k6 v2 v3 v4 v6 σ = some o → va_P D vwCl (wd Y E σ 0 LC) H → va_S (AF E LC.length s.heap.size) s.heap H locs → lv_has ls 7 [(0, .ref (E 1)), (1, .ref (E 8)), (2, .int v2), (3, .int v3), (4, .long v4), (6, .int v6)] → WI p l e rm_X7_readWord s m args below meth c LC Y D E o H locs (F0 m 32 ls []) := by
  intro v2 v3 v4 v6 σ H locs ls h hP hS hl
  unfold f_X7_readWord_32 at h
  obtain ⟨hC, hb, hml, hr, hlk, hD, hSW⟩ := id hF
  have hx := hC.1
  refine lv_lload hx hb dX7_readWord_32 (lv_at hl 4 rfl) ?_
  refine lv_ldc2 (v := 256) hx hb hC.2.2.1 (hC.2.1 (Cond.constantLong RX7 50 256) (gw_t (tb5 (List.mem_of_getElem? (i := 99) rfl)) rfl)) dX7_readWord_34 ?_
  refine lv_lmul hx hb dX7_readWord_37 ?_
  refine lv_aload_n hx hb dX7_readWord_38 rfl (lv_at hl 1 rfl) ?_
  refine lv_iload hx hb dX7_readWord_39 (lv_at hl 5 rfl) ?_
  obtain ⟨g1, h⟩ := of_gd h
  refine x_iald hC hb hP lc_8 g1 dX7_readWord_41 ?_
  refine lv_i2l (v := (gA σ 8 (v6.toNatClampNeg)).toInt64) hx hb dX7_readWord_42 rfl ?_
  refine lv_ladd hx hb dX7_readWord_43 ?_
  refine lv_topl (fun x2 ex2 => ?_)
  have h := of_lt h ex2
  refine lv_lstore (lv' := [(4, .long x2), (0, .ref (E 1)), (1, .ref (E 8)), (2, .int v2), (3, .int v3), (6, .int v6)]) hx hb dX7_readWord_44 hl (by decide) rfl (fun ls hl => ?_)
  obtain ⟨x3, ex3⟩ : ∃ y : Int32, y = v6 + 1 := ⟨_, rfl⟩
  have h := of_lt h ex3
  refine lv_iinc (v := x3) (lv' := [(6, .int x3), (4, .long x2), (0, .ref (E 1)), (1, .ref (E 8)), (2, .int v2), (3, .int v3)]) hx hb dX7_readWord_46 hl (k := 5) rfl (by rw [ex3]; rfl) (by decide) rfl (fun ls hl => ?_)
  refine lv_goto (tgt := 6) hx hb dX7_readWord_49 (by decide) ?_
  exact hk6 v2 v3 x2 x3 σ _ _ _ h hP hS (lv_sub hl [2, 3, 4, 5, 1, 0] rfl)

def f_X7_readWord_73 (v3 : Int32) (v4 : Int64) (v6 : Int32) (s0 : Int32) (σ : Sta) : Option (Int32 × Sta) :=
  bnd (f_X7_put s0 v3 v4 σ) (fun _ σ2 =>
  some (v6, σ2))
set_option maxHeartbeats 4000000 in
set_option maxRecDepth 100000 in
theorem t_X7_readWord_73 {l : Launch} {D : va_G} {Y : CYs} {E : Nat → Nat} {p : Program} {e : Env} {s : State} {m : MethodId} {args : Array Value} {below : List Frame} {meth : Method} {c : Code} (hF : Fr p s m args meth c RX7 cX7_readWord 7 (some .int) D Y E LC) {o : Int32 × Sta} : ∀ (v3 : Int32) (v4 : Int64) (v6 : Int32) (s0 : Int32) (σ : Sta) (H : Heap) (locs : List Loc) (ls : Array Slot), f_X7_readWord_73 v3 v4 v6 s0 σ = some o → va_P D vwCl (wd Y E σ 0 LC) H → va_S (AF E LC.length s.heap.size) s.heap H locs → lv_has ls 7 [(3, .int v3), (4, .long v4), (6, .int v6)] → WI p l e rm_X7_readWord s m args below meth c LC Y D E o H locs (F0 m 73 ls [.int s0, .ref (E 1)]) := by
  intro v3 v4 v6 s0 σ H locs ls h hP hS hl
  unfold f_X7_readWord_73 at h
  obtain ⟨hC, hb, hml, hr, hlk, hD, hSW⟩ := id hF
  have hx := hC.1
  refine lv_iload_n hx hb dX7_readWord_73 rfl (lv_at hl 0 rfl) ?_
  refine lv_lload hx hb dX7_readWord_74 (lv_at hl 1 rfl) ?_
  obtain ⟨r1, σ2, g3, h⟩ := of_bnd h
  refine x_VV (As := [.int s0, .int v3, .long v4]) (rest := []) hF hl hP hS (c_X7_put g3) (cw_X7_30 hC rfl rfl ⟨Nat.le_of_ble_eq_true rfl, Nat.le_of_ble_eq_true rfl⟩) lc_1 rfl rfl rfl (Nat.le_of_ble_eq_true rfl) dX7_readWord_76 ⟨Nat.zero_le _, Nat.zero_le _⟩ (fun H locs hP hS => ?_)
  refine lv_iload hx hb dX7_readWord_79 (lv_at hl 2 rfl) ?_
  exact x_iret hF hP hS h dX7_readWord_81

def f_X7_readWord_52 (v3 : Int32) (v4 : Int64) (v6 : Int32) (σ : Sta) : Option (Int32 × Sta) :=
  if v6 - v3 ≤ 8 then
    bnd (f_X7_kindOfWord v4 σ) (fun r2 σ3 =>
    f_X7_readWord_73 v3 v4 v6 r2 σ3)
  else
    f_X7_readWord_73 v3 v4 v6 279 σ
set_option maxHeartbeats 4000000 in
set_option maxRecDepth 100000 in
theorem t_X7_readWord_52 {l : Launch} {D : va_G} {Y : CYs} {E : Nat → Nat} {p : Program} {e : Env} {s : State} {m : MethodId} {args : Array Value} {below : List Frame} {meth : Method} {c : Code} (hF : Fr p s m args meth c RX7 cX7_readWord 7 (some .int) D Y E LC) {o : Int32 × Sta} : ∀ (v3 : Int32) (v4 : Int64) (v6 : Int32) (σ : Sta) (H : Heap) (locs : List Loc) (ls : Array Slot), f_X7_readWord_52 v3 v4 v6 σ = some o → va_P D vwCl (wd Y E σ 0 LC) H → va_S (AF E LC.length s.heap.size) s.heap H locs → lv_has ls 7 [(0, .ref (E 1)), (3, .int v3), (4, .long v4), (6, .int v6)] → WI p l e rm_X7_readWord s m args below meth c LC Y D E o H locs (F0 m 52 ls []) := by
  intro v3 v4 v6 σ H locs ls h hP hS hl
  unfold f_X7_readWord_52 at h
  obtain ⟨hC, hb, hml, hr, hlk, hD, hSW⟩ := id hF
  have hx := hC.1
  refine lv_aload_n hx hb dX7_readWord_52 rfl (lv_at hl 0 rfl) ?_
  refine lv_iload hx hb dX7_readWord_53 (lv_at hl 3 rfl) ?_
  refine lv_iload_n hx hb dX7_readWord_55 rfl (lv_at hl 1 rfl) ?_
  refine lv_isub hx hb dX7_readWord_56 ?_
  refine lv_bipush (v := 8) hx hb dX7_readWord_57 (by decide) ?_
  refine lv_icmp_le (tgt := 68) hx hb dX7_readWord_59 (by decide) (fun c1 => ?_) (fun c1 => ?_)
  · have h := of_t h c1
    refine lv_lload hx hb dX7_readWord_68 (lv_at hl 2 rfl) ?_
    obtain ⟨r2, σ3, g4, h⟩ := of_bnd h
    refine x_SI (As := [.long v4]) (rest := [.ref (E 1)]) hF hl hP hS (c_X7_kindOfWord g4) (cw_X7_52 hC rfl rfl ⟨Nat.le_of_ble_eq_true rfl, Nat.le_of_ble_eq_true rfl⟩) rfl rfl (Nat.le_of_ble_eq_true rfl) dX7_readWord_70 ⟨Nat.zero_le _, Nat.zero_le _⟩ (fun H locs hP hS => ?_)
    exact t_X7_readWord_73  hF v3 v4 v6 r2 σ3 _ _ _ h hP hS (lv_sub hl [1, 2, 3] rfl)
  · have h := of_f h c1
    refine lv_sipush (v := 279) hx hb dX7_readWord_62 (by decide) ?_
    refine lv_goto (tgt := 73) hx hb dX7_readWord_65 (by decide) ?_
    exact t_X7_readWord_73  hF v3 v4 v6 279 σ _ _ _ h hP hS (lv_sub hl [1, 2, 3] rfl)

def f_X7_readWord_6 : Nat → Int32 → Int32 → Int64 → Int32 → Sta → Option (Int32 × Sta)
  | 0, _, _, _, _, _ => none
  | n + 1, v2, v3, v4, v6, σ => if v2 ≤ v6 then
      f_X7_readWord_52 v3 v4 v6 σ
    else
      if v6 < 0 ∨ 1500 ≤ (v6.toNatClampNeg) then none else (
      bnd (f_X7_isLetter (gA σ 8 (v6.toNatClampNeg)) σ) (fun r3 σ4 =>
      if r3 = 0 then
        if v6 < 0 ∨ 1500 ≤ (v6.toNatClampNeg) then none else (
        bnd (f_X7_isDigit (gA σ4 8 (v6.toNatClampNeg)) σ4) (fun r8 σ9 =>
        if r8 = 0 then
          f_X7_readWord_52 v3 v4 v6 σ9
        else
          f_X7_readWord_32 (f_X7_readWord_6 n) v2 v3 v4 v6 σ9))
      else
        f_X7_readWord_32 (f_X7_readWord_6 n) v2 v3 v4 v6 σ4))
set_option maxHeartbeats 4000000 in
set_option maxRecDepth 100000 in
theorem t_X7_readWord_6 {l : Launch} {D : va_G} {Y : CYs} {E : Nat → Nat} {p : Program} {e : Env} {s : State} {m : MethodId} {args : Array Value} {below : List Frame} {meth : Method} {c : Code} (hF : Fr p s m args meth c RX7 cX7_readWord 7 (some .int) D Y E LC) {o : Int32 × Sta} : ∀ (n : Nat) (v2 : Int32) (v3 : Int32) (v4 : Int64) (v6 : Int32) (σ : Sta) (H : Heap) (locs : List Loc) (ls : Array Slot), f_X7_readWord_6 n v2 v3 v4 v6 σ = some o → va_P D vwCl (wd Y E σ 0 LC) H → va_S (AF E LC.length s.heap.size) s.heap H locs → lv_has ls 7 [(0, .ref (E 1)), (1, .ref (E 8)), (2, .int v2), (3, .int v3), (4, .long v4), (6, .int v6)] → WI p l e rm_X7_readWord s m args below meth c LC Y D E o H locs (F0 m 6 ls []) := by
  intro n
  induction n with
  | zero =>
    intro v2 v3 v4 v6 σ H locs ls h hP hS hl
    exact nomatch (show (none : Option (Int32 × Sta)) = some o from h)
  | succ n ih =>
    intro v2 v3 v4 v6 σ H locs ls h hP hS hl
    rw [f_X7_readWord_6] at h
    obtain ⟨hC, hb, hml, hr, hlk, hD, hSW⟩ := id hF
    have hx := hC.1
    refine lv_iload hx hb dX7_readWord_6 (lv_at hl 5 rfl) ?_
    refine lv_iload_n hx hb dX7_readWord_8 rfl (lv_at hl 2 rfl) ?_
    refine lv_icmp_ge (tgt := 52) hx hb dX7_readWord_9 (by decide) (fun c1 => ?_) (fun c1 => ?_)
    · have h := of_t h c1
      exact t_X7_readWord_52  hF v3 v4 v6 σ _ _ _ h hP hS (lv_sub hl [0, 3, 4, 5] rfl)
    · have h := of_f h c1
      refine lv_aload_n hx hb dX7_readWord_12 rfl (lv_at hl 1 rfl) ?_
      refine lv_iload hx hb dX7_readWord_13 (lv_at hl 5 rfl) ?_
      obtain ⟨g2, h⟩ := of_gd h
      refine x_iald hC hb hP lc_8 g2 dX7_readWord_15 ?_
      obtain ⟨r3, σ4, g5, h⟩ := of_bnd h
      refine x_SI (As := [.int (gA σ 8 (v6.toNatClampNeg))]) (rest := []) hF hl hP hS (c_X7_isLetter g5) (cw_X7_34 hC rfl rfl ⟨Nat.le_of_ble_eq_true rfl, Nat.le_of_ble_eq_true rfl⟩) rfl rfl (Nat.le_of_ble_eq_true rfl) dX7_readWord_16 ⟨Nat.zero_le _, Nat.zero_le _⟩ (fun H locs hP hS => ?_)
      refine lv_if_ne (tgt := 32) hx hb dX7_readWord_19 (by decide) (fun c6 => ?_) (fun c6 => ?_)
      · have h := of_f h c6
        exact t_X7_readWord_32  hF (f_X7_readWord_6 n) ih v2 v3 v4 v6 σ4 _ _ _ h hP hS (lv_sub hl [0, 1, 2, 3, 4, 5] rfl)
      · have h := of_t h c6
        refine lv_aload_n hx hb dX7_readWord_22 rfl (lv_at hl 1 rfl) ?_
        refine lv_iload hx hb dX7_readWord_23 (lv_at hl 5 rfl) ?_
        obtain ⟨g7, h⟩ := of_gd h
        refine x_iald hC hb hP lc_8 g7 dX7_readWord_25 ?_
        obtain ⟨r8, σ9, g10, h⟩ := of_bnd h
        refine x_SI (As := [.int (gA σ4 8 (v6.toNatClampNeg))]) (rest := []) hF hl hP hS (c_X7_isDigit g10) (cw_X7_41 hC rfl rfl ⟨Nat.le_of_ble_eq_true rfl, Nat.le_of_ble_eq_true rfl⟩) rfl rfl (Nat.le_of_ble_eq_true rfl) dX7_readWord_26 ⟨Nat.zero_le _, Nat.zero_le _⟩ (fun H locs hP hS => ?_)
        refine lv_if_eq (tgt := 52) hx hb dX7_readWord_29 (by decide) (fun c11 => ?_) (fun c11 => ?_)
        · have h := of_t h c11
          exact t_X7_readWord_52  hF v3 v4 v6 σ9 _ _ _ h hP hS (lv_sub hl [0, 3, 4, 5] rfl)
        · have h := of_f h c11
          exact t_X7_readWord_32  hF (f_X7_readWord_6 n) ih v2 v3 v4 v6 σ9 _ _ _ h hP hS (lv_sub hl [0, 1, 2, 3, 4, 5] rfl)

def f_X7_readWord (a2 : Int32) (a3 : Int32) (σ : Sta) : Option (Int32 × Sta) :=
  f_X7_readWord_6 FU a2 a3 0 a3 σ
set_option maxHeartbeats 4000000 in
set_option maxRecDepth 100000 in
theorem c_X7_readWord {l : Launch} {D : va_G} {Y : CYs} {E : Nat → Nat} {a2 : Int32} {a3 : Int32} {σ : Sta} {o : Int32 × Sta} (h : f_X7_readWord a2 a3 σ = some o) : MI l yX7_readWord (Cond.code yX7_readWord cX7_readWord 7 (some .int) :: gW) rm_X7_readWord LC Y D E [.ref (E 1), .ref (E 8), .int a2, .int a3] σ o := by
  intro sz
  refine Met_of (Qc := fun sz => QI LC Y D E sz o) (by decide) (Nat.le_of_ble_eq_true rfl) (fun p e s m args below meth c hF hP ls hl => ?_) sz
  have hS : va_S (AF E LC.length s.heap.size) s.heap s.heap [] := va_S.rf
  have hl : lv_has ls 7 [(0, .ref (E 1)), (1, .ref (E 8)), (2, .int a2), (3, .int a3)] := hl
  show WI p l e rm_X7_readWord s m args below meth c LC Y D E o s.heap [] (F0 m 0 ls [])
  unfold f_X7_readWord at h
  obtain ⟨hC, hb, hml, hr, hlk, hD, hSW⟩ := id hF
  have hx := hC.1
  refine lv_lconst (v := 0) hx hb dX7_readWord_0 (by decide) ?_
  refine lv_lstore (lv' := [(4, .long 0), (0, .ref (E 1)), (1, .ref (E 8)), (2, .int a2), (3, .int a3)]) hx hb dX7_readWord_1 hl (by decide) rfl (fun ls hl => ?_)
  refine lv_iload_n hx hb dX7_readWord_3 rfl (lv_at hl 4 rfl) ?_
  refine lv_istore (lv' := [(6, .int a3), (4, .long 0), (0, .ref (E 1)), (1, .ref (E 8)), (2, .int a2), (3, .int a3)]) hx hb dX7_readWord_4 hl (by decide) rfl (fun ls hl => ?_)
  exact t_X7_readWord_6  hF FU a2 a3 0 a3 σ _ _ _ h hP hS (lv_sub hl [2, 3, 4, 5, 1, 0] rfl)

abbrev rm_X7_readNumber : Room := { frames := 1, cells := 0, slots := 0, locals := 24 }
def f_X7_readNumber_64 (v3 : Int32) (v4 : Int64) (v6 : Int32) (s0 : Int32) (σ : Sta) : Option (Int32 × Sta) :=
  bnd (f_X7_put s0 v3 v4 σ) (fun _ σ2 =>
  some (v6, σ2))
set_option maxHeartbeats 4000000 in
set_option maxRecDepth 100000 in
theorem t_X7_readNumber_64 {l : Launch} {D : va_G} {Y : CYs} {E : Nat → Nat} {p : Program} {e : Env} {s : State} {m : MethodId} {args : Array Value} {below : List Frame} {meth : Method} {c : Code} (hF : Fr p s m args meth c RX7 cX7_readNumber 7 (some .int) D Y E LC) {o : Int32 × Sta} : ∀ (v3 : Int32) (v4 : Int64) (v6 : Int32) (s0 : Int32) (σ : Sta) (H : Heap) (locs : List Loc) (ls : Array Slot), f_X7_readNumber_64 v3 v4 v6 s0 σ = some o → va_P D vwCl (wd Y E σ 0 LC) H → va_S (AF E LC.length s.heap.size) s.heap H locs → lv_has ls 7 [(3, .int v3), (4, .long v4), (6, .int v6)] → WI p l e rm_X7_readNumber s m args below meth c LC Y D E o H locs (F0 m 64 ls [.int s0, .ref (E 1)]) := by
  intro v3 v4 v6 s0 σ H locs ls h hP hS hl
  unfold f_X7_readNumber_64 at h
  obtain ⟨hC, hb, hml, hr, hlk, hD, hSW⟩ := id hF
  have hx := hC.1
  refine lv_iload_n hx hb dX7_readNumber_64 rfl (lv_at hl 0 rfl) ?_
  refine lv_lload hx hb dX7_readNumber_65 (lv_at hl 1 rfl) ?_
  obtain ⟨r1, σ2, g3, h⟩ := of_bnd h
  refine x_VV (As := [.int s0, .int v3, .long v4]) (rest := []) hF hl hP hS (c_X7_put g3) (cw_X7_30 hC rfl rfl ⟨Nat.le_of_ble_eq_true rfl, Nat.le_of_ble_eq_true rfl⟩) lc_1 rfl rfl rfl (Nat.le_of_ble_eq_true rfl) dX7_readNumber_67 ⟨Nat.zero_le _, Nat.zero_le _⟩ (fun H locs hP hS => ?_)
  refine lv_iload hx hb dX7_readNumber_70 (lv_at hl 2 rfl) ?_
  exact x_iret hF hP hS h dX7_readNumber_72

def f_X7_readNumber_45 (v3 : Int32) (v4 : Int64) (v6 : Int32) (σ : Sta) : Option (Int32 × Sta) :=
  if v6 - v3 ≤ 6 then
    f_X7_readNumber_64 v3 v4 v6 274 σ
  else
    f_X7_readNumber_64 v3 v4 v6 279 σ
set_option maxHeartbeats 4000000 in
set_option maxRecDepth 100000 in
theorem t_X7_readNumber_45 {l : Launch} {D : va_G} {Y : CYs} {E : Nat → Nat} {p : Program} {e : Env} {s : State} {m : MethodId} {args : Array Value} {below : List Frame} {meth : Method} {c : Code} (hF : Fr p s m args meth c RX7 cX7_readNumber 7 (some .int) D Y E LC) {o : Int32 × Sta} : ∀ (v3 : Int32) (v4 : Int64) (v6 : Int32) (σ : Sta) (H : Heap) (locs : List Loc) (ls : Array Slot), f_X7_readNumber_45 v3 v4 v6 σ = some o → va_P D vwCl (wd Y E σ 0 LC) H → va_S (AF E LC.length s.heap.size) s.heap H locs → lv_has ls 7 [(0, .ref (E 1)), (3, .int v3), (4, .long v4), (6, .int v6)] → WI p l e rm_X7_readNumber s m args below meth c LC Y D E o H locs (F0 m 45 ls []) := by
  intro v3 v4 v6 σ H locs ls h hP hS hl
  unfold f_X7_readNumber_45 at h
  obtain ⟨hC, hb, hml, hr, hlk, hD, hSW⟩ := id hF
  have hx := hC.1
  refine lv_aload_n hx hb dX7_readNumber_45 rfl (lv_at hl 0 rfl) ?_
  refine lv_iload hx hb dX7_readNumber_46 (lv_at hl 3 rfl) ?_
  refine lv_iload_n hx hb dX7_readNumber_48 rfl (lv_at hl 1 rfl) ?_
  refine lv_isub hx hb dX7_readNumber_49 ?_
  refine lv_bipush (v := 6) hx hb dX7_readNumber_50 (by decide) ?_
  refine lv_icmp_le (tgt := 61) hx hb dX7_readNumber_52 (by decide) (fun c1 => ?_) (fun c1 => ?_)
  · have h := of_t h c1
    refine lv_sipush (v := 274) hx hb dX7_readNumber_61 (by decide) ?_
    exact t_X7_readNumber_64  hF v3 v4 v6 274 σ _ _ _ h hP hS (lv_sub hl [1, 2, 3] rfl)
  · have h := of_f h c1
    refine lv_sipush (v := 279) hx hb dX7_readNumber_55 (by decide) ?_
    refine lv_goto (tgt := 64) hx hb dX7_readNumber_58 (by decide) ?_
    exact t_X7_readNumber_64  hF v3 v4 v6 279 σ _ _ _ h hP hS (lv_sub hl [1, 2, 3] rfl)

def f_X7_readNumber_6 : Nat → Int32 → Int32 → Int64 → Int32 → Sta → Option (Int32 × Sta)
  | 0, _, _, _, _, _ => none
  | n + 1, v2, v3, v4, v6, σ => if v2 ≤ v6 then
      f_X7_readNumber_45 v3 v4 v6 σ
    else
      if v6 < 0 ∨ 1500 ≤ (v6.toNatClampNeg) then none else (
      bnd (f_X7_isDigit (gA σ 8 (v6.toNatClampNeg)) σ) (fun r3 σ4 =>
      if r3 = 0 then
        f_X7_readNumber_45 v3 v4 v6 σ4
      else
        if v6 < 0 ∨ 1500 ≤ (v6.toNatClampNeg) then none else (
        lt ((v4 * 10) + (((gA σ4 8 (v6.toNatClampNeg)) - 48).toInt64)) (fun x8 =>
        lt (v6 + 1) (fun x9 =>
        f_X7_readNumber_6 n v2 v3 x8 x9 σ4)))))
set_option maxHeartbeats 4000000 in
set_option maxRecDepth 100000 in
theorem t_X7_readNumber_6 {l : Launch} {D : va_G} {Y : CYs} {E : Nat → Nat} {p : Program} {e : Env} {s : State} {m : MethodId} {args : Array Value} {below : List Frame} {meth : Method} {c : Code} (hF : Fr p s m args meth c RX7 cX7_readNumber 7 (some .int) D Y E LC) {o : Int32 × Sta} : ∀ (n : Nat) (v2 : Int32) (v3 : Int32) (v4 : Int64) (v6 : Int32) (σ : Sta) (H : Heap) (locs : List Loc) (ls : Array Slot), f_X7_readNumber_6 n v2 v3 v4 v6 σ = some o → va_P D vwCl (wd Y E σ 0 LC) H → va_S (AF E LC.length s.heap.size) s.heap H locs → lv_has ls 7 [(0, .ref (E 1)), (1, .ref (E 8)), (2, .int v2), (3, .int v3), (4, .long v4), (6, .int v6)] → WI p l e rm_X7_readNumber s m args below meth c LC Y D E o H locs (F0 m 6 ls []) := by
  intro n
  induction n with
  | zero =>
    intro v2 v3 v4 v6 σ H locs ls h hP hS hl
    exact nomatch (show (none : Option (Int32 × Sta)) = some o from h)
  | succ n ih =>
    intro v2 v3 v4 v6 σ H locs ls h hP hS hl
    rw [f_X7_readNumber_6] at h
    obtain ⟨hC, hb, hml, hr, hlk, hD, hSW⟩ := id hF
    have hx := hC.1
    refine lv_iload hx hb dX7_readNumber_6 (lv_at hl 5 rfl) ?_
    refine lv_iload_n hx hb dX7_readNumber_8 rfl (lv_at hl 2 rfl) ?_
    refine lv_icmp_ge (tgt := 45) hx hb dX7_readNumber_9 (by decide) (fun c1 => ?_) (fun c1 => ?_)
    · have h := of_t h c1
      exact t_X7_readNumber_45  hF v3 v4 v6 σ _ _ _ h hP hS (lv_sub hl [0, 3, 4, 5] rfl)
    · have h := of_f h c1
      refine lv_aload_n hx hb dX7_readNumber_12 rfl (lv_at hl 1 rfl) ?_
      refine lv_iload hx hb dX7_readNumber_13 (lv_at hl 5 rfl) ?_
      obtain ⟨g2, h⟩ := of_gd h
      refine x_iald hC hb hP lc_8 g2 dX7_readNumber_15 ?_
      obtain ⟨r3, σ4, g5, h⟩ := of_bnd h
      refine x_SI (As := [.int (gA σ 8 (v6.toNatClampNeg))]) (rest := []) hF hl hP hS (c_X7_isDigit g5) (cw_X7_41 hC rfl rfl ⟨Nat.le_of_ble_eq_true rfl, Nat.le_of_ble_eq_true rfl⟩) rfl rfl (Nat.le_of_ble_eq_true rfl) dX7_readNumber_16 ⟨Nat.zero_le _, Nat.zero_le _⟩ (fun H locs hP hS => ?_)
      refine lv_if_eq (tgt := 45) hx hb dX7_readNumber_19 (by decide) (fun c6 => ?_) (fun c6 => ?_)
      · have h := of_t h c6
        exact t_X7_readNumber_45  hF v3 v4 v6 σ4 _ _ _ h hP hS (lv_sub hl [0, 3, 4, 5] rfl)
      · have h := of_f h c6
        refine lv_lload hx hb dX7_readNumber_22 (lv_at hl 4 rfl) ?_
        refine lv_ldc2 (v := 10) hx hb hC.2.2.1 (hC.2.1 (Cond.constantLong RX7 56 10) (gw_t (tb5 (List.mem_of_getElem? (i := 114) rfl)) rfl)) dX7_readNumber_24 ?_
        refine lv_lmul hx hb dX7_readNumber_27 ?_
        refine lv_aload_n hx hb dX7_readNumber_28 rfl (lv_at hl 1 rfl) ?_
        refine lv_iload hx hb dX7_readNumber_29 (lv_at hl 5 rfl) ?_
        obtain ⟨g7, h⟩ := of_gd h
        refine x_iald hC hb hP lc_8 g7 dX7_readNumber_31 ?_
        refine lv_bipush (v := 48) hx hb dX7_readNumber_32 (by decide) ?_
        refine lv_isub hx hb dX7_readNumber_34 ?_
        refine lv_i2l (v := ((gA σ4 8 (v6.toNatClampNeg)) - 48).toInt64) hx hb dX7_readNumber_35 rfl ?_
        refine lv_ladd hx hb dX7_readNumber_36 ?_
        refine lv_topl (fun x8 ex8 => ?_)
        have h := of_lt h ex8
        refine lv_lstore (lv' := [(4, .long x8), (0, .ref (E 1)), (1, .ref (E 8)), (2, .int v2), (3, .int v3), (6, .int v6)]) hx hb dX7_readNumber_37 hl (by decide) rfl (fun ls hl => ?_)
        obtain ⟨x9, ex9⟩ : ∃ y : Int32, y = v6 + 1 := ⟨_, rfl⟩
        have h := of_lt h ex9
        refine lv_iinc (v := x9) (lv' := [(6, .int x9), (4, .long x8), (0, .ref (E 1)), (1, .ref (E 8)), (2, .int v2), (3, .int v3)]) hx hb dX7_readNumber_39 hl (k := 5) rfl (by rw [ex9]; rfl) (by decide) rfl (fun ls hl => ?_)
        refine lv_goto (tgt := 6) hx hb dX7_readNumber_42 (by decide) ?_
        exact ih v2 v3 x8 x9 σ4 _ _ _ h hP hS (lv_sub hl [2, 3, 4, 5, 1, 0] rfl)

def f_X7_readNumber (a2 : Int32) (a3 : Int32) (σ : Sta) : Option (Int32 × Sta) :=
  f_X7_readNumber_6 FU a2 a3 0 a3 σ
set_option maxHeartbeats 4000000 in
set_option maxRecDepth 100000 in
theorem c_X7_readNumber {l : Launch} {D : va_G} {Y : CYs} {E : Nat → Nat} {a2 : Int32} {a3 : Int32} {σ : Sta} {o : Int32 × Sta} (h : f_X7_readNumber a2 a3 σ = some o) : MI l yX7_readNumber (Cond.code yX7_readNumber cX7_readNumber 7 (some .int) :: gW) rm_X7_readNumber LC Y D E [.ref (E 1), .ref (E 8), .int a2, .int a3] σ o := by
  intro sz
  refine Met_of (Qc := fun sz => QI LC Y D E sz o) (by decide) (Nat.le_of_ble_eq_true rfl) (fun p e s m args below meth c hF hP ls hl => ?_) sz
  have hS : va_S (AF E LC.length s.heap.size) s.heap s.heap [] := va_S.rf
  have hl : lv_has ls 7 [(0, .ref (E 1)), (1, .ref (E 8)), (2, .int a2), (3, .int a3)] := hl
  show WI p l e rm_X7_readNumber s m args below meth c LC Y D E o s.heap [] (F0 m 0 ls [])
  unfold f_X7_readNumber at h
  obtain ⟨hC, hb, hml, hr, hlk, hD, hSW⟩ := id hF
  have hx := hC.1
  refine lv_lconst (v := 0) hx hb dX7_readNumber_0 (by decide) ?_
  refine lv_lstore (lv' := [(4, .long 0), (0, .ref (E 1)), (1, .ref (E 8)), (2, .int a2), (3, .int a3)]) hx hb dX7_readNumber_1 hl (by decide) rfl (fun ls hl => ?_)
  refine lv_iload_n hx hb dX7_readNumber_3 rfl (lv_at hl 4 rfl) ?_
  refine lv_istore (lv' := [(6, .int a3), (4, .long 0), (0, .ref (E 1)), (1, .ref (E 8)), (2, .int a2), (3, .int a3)]) hx hb dX7_readNumber_4 hl (by decide) rfl (fun ls hl => ?_)
  exact t_X7_readNumber_6  hF FU a2 a3 0 a3 σ _ _ _ h hP hS (lv_sub hl [2, 3, 4, 5, 1, 0] rfl)

abbrev rm_X7_kindOfPair : Room := { frames := 0, cells := 0, slots := 0, locals := 0 }
def f_X7_kindOfPair_53 (s0 : Int32) (σ : Sta) : Option (Int32 × Sta) :=
  some (s0, σ)
set_option maxHeartbeats 4000000 in
set_option maxRecDepth 100000 in
theorem t_X7_kindOfPair_53 {l : Launch} {D : va_G} {Y : CYs} {E : Nat → Nat} {p : Program} {e : Env} {s : State} {m : MethodId} {args : Array Value} {below : List Frame} {meth : Method} {c : Code} (hF : Fr p s m args meth c RX7 cX7_kindOfPair 2 (some .int) D Y E LC) {o : Int32 × Sta} : ∀ (s0 : Int32) (σ : Sta) (H : Heap) (locs : List Loc) (ls : Array Slot), f_X7_kindOfPair_53 s0 σ = some o → va_P D vwCl (wd Y E σ 0 LC) H → va_S (AF E LC.length s.heap.size) s.heap H locs → lv_has ls 2 [] → WI p l e rm_X7_kindOfPair s m args below meth c LC Y D E o H locs (F0 m 53 ls [.int s0]) := by
  intro s0 σ H locs ls h hP hS hl
  unfold f_X7_kindOfPair_53 at h
  obtain ⟨hC, hb, hml, hr, hlk, hD, hSW⟩ := id hF
  have hx := hC.1
  exact x_iret hF hP hS h dX7_kindOfPair_53

def f_X7_kindOfPair_50 (σ : Sta) : Option (Int32 × Sta) :=
  f_X7_kindOfPair_53 279 σ
set_option maxHeartbeats 4000000 in
set_option maxRecDepth 100000 in
theorem t_X7_kindOfPair_50 {l : Launch} {D : va_G} {Y : CYs} {E : Nat → Nat} {p : Program} {e : Env} {s : State} {m : MethodId} {args : Array Value} {below : List Frame} {meth : Method} {c : Code} (hF : Fr p s m args meth c RX7 cX7_kindOfPair 2 (some .int) D Y E LC) {o : Int32 × Sta} : ∀ (σ : Sta) (H : Heap) (locs : List Loc) (ls : Array Slot), f_X7_kindOfPair_50 σ = some o → va_P D vwCl (wd Y E σ 0 LC) H → va_S (AF E LC.length s.heap.size) s.heap H locs → lv_has ls 2 [] → WI p l e rm_X7_kindOfPair s m args below meth c LC Y D E o H locs (F0 m 50 ls []) := by
  intro σ H locs ls h hP hS hl
  unfold f_X7_kindOfPair_50 at h
  obtain ⟨hC, hb, hml, hr, hlk, hD, hSW⟩ := id hF
  have hx := hC.1
  refine lv_sipush (v := 279) hx hb dX7_kindOfPair_50 (by decide) ?_
  exact t_X7_kindOfPair_53  hF 279 σ _ _ _ h hP hS (lv_sub hl [] rfl)

def f_X7_kindOfPair_32 (v0 : Int32) (v1 : Int32) (σ : Sta) : Option (Int32 × Sta) :=
  if v0 = 60 then
    if v1 = 62 then
      f_X7_kindOfPair_53 277 σ
    else
      f_X7_kindOfPair_50 σ
  else
    f_X7_kindOfPair_50 σ
set_option maxHeartbeats 4000000 in
set_option maxRecDepth 100000 in
theorem t_X7_kindOfPair_32 {l : Launch} {D : va_G} {Y : CYs} {E : Nat → Nat} {p : Program} {e : Env} {s : State} {m : MethodId} {args : Array Value} {below : List Frame} {meth : Method} {c : Code} (hF : Fr p s m args meth c RX7 cX7_kindOfPair 2 (some .int) D Y E LC) {o : Int32 × Sta} : ∀ (v0 : Int32) (v1 : Int32) (σ : Sta) (H : Heap) (locs : List Loc) (ls : Array Slot), f_X7_kindOfPair_32 v0 v1 σ = some o → va_P D vwCl (wd Y E σ 0 LC) H → va_S (AF E LC.length s.heap.size) s.heap H locs → lv_has ls 2 [(0, .int v0), (1, .int v1)] → WI p l e rm_X7_kindOfPair s m args below meth c LC Y D E o H locs (F0 m 32 ls []) := by
  intro v0 v1 σ H locs ls h hP hS hl
  unfold f_X7_kindOfPair_32 at h
  obtain ⟨hC, hb, hml, hr, hlk, hD, hSW⟩ := id hF
  have hx := hC.1
  refine lv_iload_n hx hb dX7_kindOfPair_32 rfl (lv_at hl 0 rfl) ?_
  refine lv_bipush (v := 60) hx hb dX7_kindOfPair_33 (by decide) ?_
  refine lv_icmp_ne (tgt := 50) hx hb dX7_kindOfPair_35 (by decide) (fun c1 => ?_) (fun c1 => ?_)
  · have h := of_f h c1
    exact t_X7_kindOfPair_50  hF σ _ _ _ h hP hS (lv_sub hl [] rfl)
  · have h := of_t h c1
    refine lv_iload_n hx hb dX7_kindOfPair_38 rfl (lv_at hl 1 rfl) ?_
    refine lv_bipush (v := 62) hx hb dX7_kindOfPair_39 (by decide) ?_
    refine lv_icmp_ne (tgt := 50) hx hb dX7_kindOfPair_41 (by decide) (fun c2 => ?_) (fun c2 => ?_)
    · have h := of_f h c2
      exact t_X7_kindOfPair_50  hF σ _ _ _ h hP hS (lv_sub hl [] rfl)
    · have h := of_t h c2
      refine lv_sipush (v := 277) hx hb dX7_kindOfPair_44 (by decide) ?_
      refine lv_goto (tgt := 53) hx hb dX7_kindOfPair_47 (by decide) ?_
      exact t_X7_kindOfPair_53  hF 277 σ _ _ _ h hP hS (lv_sub hl [] rfl)

def f_X7_kindOfPair_16 (v0 : Int32) (v1 : Int32) (σ : Sta) : Option (Int32 × Sta) :=
  if v0 = 62 then
    if v1 = 61 then
      some (276, σ)
    else
      f_X7_kindOfPair_32 v0 v1 σ
  else
    f_X7_kindOfPair_32 v0 v1 σ
set_option maxHeartbeats 4000000 in
set_option maxRecDepth 100000 in
theorem t_X7_kindOfPair_16 {l : Launch} {D : va_G} {Y : CYs} {E : Nat → Nat} {p : Program} {e : Env} {s : State} {m : MethodId} {args : Array Value} {below : List Frame} {meth : Method} {c : Code} (hF : Fr p s m args meth c RX7 cX7_kindOfPair 2 (some .int) D Y E LC) {o : Int32 × Sta} : ∀ (v0 : Int32) (v1 : Int32) (σ : Sta) (H : Heap) (locs : List Loc) (ls : Array Slot), f_X7_kindOfPair_16 v0 v1 σ = some o → va_P D vwCl (wd Y E σ 0 LC) H → va_S (AF E LC.length s.heap.size) s.heap H locs → lv_has ls 2 [(0, .int v0), (1, .int v1)] → WI p l e rm_X7_kindOfPair s m args below meth c LC Y D E o H locs (F0 m 16 ls []) := by
  intro v0 v1 σ H locs ls h hP hS hl
  unfold f_X7_kindOfPair_16 at h
  obtain ⟨hC, hb, hml, hr, hlk, hD, hSW⟩ := id hF
  have hx := hC.1
  refine lv_iload_n hx hb dX7_kindOfPair_16 rfl (lv_at hl 0 rfl) ?_
  refine lv_bipush (v := 62) hx hb dX7_kindOfPair_17 (by decide) ?_
  refine lv_icmp_ne (tgt := 32) hx hb dX7_kindOfPair_19 (by decide) (fun c1 => ?_) (fun c1 => ?_)
  · have h := of_f h c1
    exact t_X7_kindOfPair_32  hF v0 v1 σ _ _ _ h hP hS (lv_sub hl [0, 1] rfl)
  · have h := of_t h c1
    refine lv_iload_n hx hb dX7_kindOfPair_22 rfl (lv_at hl 1 rfl) ?_
    refine lv_bipush (v := 61) hx hb dX7_kindOfPair_23 (by decide) ?_
    refine lv_icmp_ne (tgt := 32) hx hb dX7_kindOfPair_25 (by decide) (fun c2 => ?_) (fun c2 => ?_)
    · have h := of_f h c2
      exact t_X7_kindOfPair_32  hF v0 v1 σ _ _ _ h hP hS (lv_sub hl [0, 1] rfl)
    · have h := of_t h c2
      refine lv_sipush (v := 276) hx hb dX7_kindOfPair_28 (by decide) ?_
      exact x_iret hF hP hS h dX7_kindOfPair_31

def f_X7_kindOfPair (a0 : Int32) (a1 : Int32) (σ : Sta) : Option (Int32 × Sta) :=
  if a0 = 60 then
    if a1 = 61 then
      some (275, σ)
    else
      f_X7_kindOfPair_16 a0 a1 σ
  else
    f_X7_kindOfPair_16 a0 a1 σ
set_option maxHeartbeats 4000000 in
set_option maxRecDepth 100000 in
theorem c_X7_kindOfPair {l : Launch} {D : va_G} {Y : CYs} {E : Nat → Nat} {a0 : Int32} {a1 : Int32} {σ : Sta} {o : Int32 × Sta} (h : f_X7_kindOfPair a0 a1 σ = some o) : MI l yX7_kindOfPair (Cond.code yX7_kindOfPair cX7_kindOfPair 2 (some .int) :: gW) rm_X7_kindOfPair LC Y D E [.int a0, .int a1] σ o := by
  intro sz
  refine Met_of (Qc := fun sz => QI LC Y D E sz o) (by decide) (Nat.le_of_ble_eq_true rfl) (fun p e s m args below meth c hF hP ls hl => ?_) sz
  have hS : va_S (AF E LC.length s.heap.size) s.heap s.heap [] := va_S.rf
  have hl : lv_has ls 2 [(0, .int a0), (1, .int a1)] := hl
  show WI p l e rm_X7_kindOfPair s m args below meth c LC Y D E o s.heap [] (F0 m 0 ls [])
  unfold f_X7_kindOfPair at h
  obtain ⟨hC, hb, hml, hr, hlk, hD, hSW⟩ := id hF
  have hx := hC.1
  refine lv_iload_n hx hb dX7_kindOfPair_0 rfl (lv_at hl 0 rfl) ?_
  refine lv_bipush (v := 60) hx hb dX7_kindOfPair_1 (by decide) ?_
  refine lv_icmp_ne (tgt := 16) hx hb dX7_kindOfPair_3 (by decide) (fun c1 => ?_) (fun c1 => ?_)
  · have h := of_f h c1
    exact t_X7_kindOfPair_16  hF a0 a1 σ _ _ _ h hP hS (lv_sub hl [0, 1] rfl)
  · have h := of_t h c1
    refine lv_iload_n hx hb dX7_kindOfPair_6 rfl (lv_at hl 1 rfl) ?_
    refine lv_bipush (v := 61) hx hb dX7_kindOfPair_7 (by decide) ?_
    refine lv_icmp_ne (tgt := 16) hx hb dX7_kindOfPair_9 (by decide) (fun c2 => ?_) (fun c2 => ?_)
    · have h := of_f h c2
      exact t_X7_kindOfPair_16  hF a0 a1 σ _ _ _ h hP hS (lv_sub hl [0, 1] rfl)
    · have h := of_t h c2
      refine lv_sipush (v := 275) hx hb dX7_kindOfPair_12 (by decide) ?_
      exact x_iret hF hP hS h dX7_kindOfPair_15

abbrev rm_X7_readSymbol : Room := { frames := 4, cells := 0, slots := 0, locals := 93 }
def f_X7_readSymbol_72 (v3 : Int32) (s0 : Int32) (σ : Sta) : Option (Int32 × Sta) :=
  bnd (f_X7_put s0 v3 0 σ) (fun _ σ2 =>
  some (v3 + 1, σ2))
set_option maxHeartbeats 4000000 in
set_option maxRecDepth 100000 in
theorem t_X7_readSymbol_72 {l : Launch} {D : va_G} {Y : CYs} {E : Nat → Nat} {p : Program} {e : Env} {s : State} {m : MethodId} {args : Array Value} {below : List Frame} {meth : Method} {c : Code} (hF : Fr p s m args meth c RX7 cX7_readSymbol 7 (some .int) D Y E LC) {o : Int32 × Sta} : ∀ (v3 : Int32) (s0 : Int32) (σ : Sta) (H : Heap) (locs : List Loc) (ls : Array Slot), f_X7_readSymbol_72 v3 s0 σ = some o → va_P D vwCl (wd Y E σ 0 LC) H → va_S (AF E LC.length s.heap.size) s.heap H locs → lv_has ls 7 [(3, .int v3)] → WI p l e rm_X7_readSymbol s m args below meth c LC Y D E o H locs (F0 m 72 ls [.int s0, .ref (E 1)]) := by
  intro v3 s0 σ H locs ls h hP hS hl
  unfold f_X7_readSymbol_72 at h
  obtain ⟨hC, hb, hml, hr, hlk, hD, hSW⟩ := id hF
  have hx := hC.1
  refine lv_iload_n hx hb dX7_readSymbol_72 rfl (lv_at hl 0 rfl) ?_
  refine lv_lconst (v := 0) hx hb dX7_readSymbol_73 (by decide) ?_
  obtain ⟨r1, σ2, g3, h⟩ := of_bnd h
  refine x_VV (As := [.int s0, .int v3, .long 0]) (rest := []) hF hl hP hS (c_X7_put g3) (cw_X7_30 hC rfl rfl ⟨Nat.le_of_ble_eq_true rfl, Nat.le_of_ble_eq_true rfl⟩) lc_1 rfl rfl rfl (Nat.le_of_ble_eq_true rfl) dX7_readSymbol_74 ⟨Nat.zero_le _, Nat.zero_le _⟩ (fun H locs hP hS => ?_)
  refine lv_iload_n hx hb dX7_readSymbol_77 rfl (lv_at hl 0 rfl) ?_
  refine lv_iconst (v := 1) hx hb dX7_readSymbol_78 (by decide) ?_
  refine lv_iadd hx hb dX7_readSymbol_79 ?_
  exact x_iret hF hP hS h dX7_readSymbol_80

def f_X7_readSymbol_21 (v3 : Int32) (v4 : Int32) (s0 : Int32) (σ : Sta) : Option (Int32 × Sta) :=
  bnd (f_X7_kindOfPair v4 s0 σ) (fun r1 σ2 =>
  if r1 = 279 then
    bnd (f_J0_indexOf_0f7a4 12 bS1 ((v4.toUInt32 % 65536).toInt32) σ2) (fun r6 σ7 =>
    if r6 < 0 then
      f_X7_readSymbol_72 v3 279 σ7
    else
      f_X7_readSymbol_72 v3 v4 σ7)
  else
    bnd (f_X7_put r1 v3 0 σ2) (fun _ σ11 =>
    some (v3 + 2, σ11)))
set_option maxHeartbeats 4000000 in
set_option maxRecDepth 100000 in
theorem t_X7_readSymbol_21 {l : Launch} {D : va_G} {Y : CYs} {E : Nat → Nat} {p : Program} {e : Env} {s : State} {m : MethodId} {args : Array Value} {below : List Frame} {meth : Method} {c : Code} (hF : Fr p s m args meth c RX7 cX7_readSymbol 7 (some .int) D Y E LC) {o : Int32 × Sta} : ∀ (v3 : Int32) (v4 : Int32) (s0 : Int32) (σ : Sta) (H : Heap) (locs : List Loc) (ls : Array Slot), f_X7_readSymbol_21 v3 v4 s0 σ = some o → va_P D vwCl (wd Y E σ 0 LC) H → va_S (AF E LC.length s.heap.size) s.heap H locs → lv_has ls 7 [(0, .ref (E 1)), (3, .int v3), (4, .int v4)] → WI p l e rm_X7_readSymbol s m args below meth c LC Y D E o H locs (F0 m 21 ls [.int s0]) := by
  intro v3 v4 s0 σ H locs ls h hP hS hl
  unfold f_X7_readSymbol_21 at h
  obtain ⟨hC, hb, hml, hr, hlk, hD, hSW⟩ := id hF
  have hx := hC.1
  refine lv_istore (lv' := [(5, .int s0), (0, .ref (E 1)), (3, .int v3), (4, .int v4)]) hx hb dX7_readSymbol_21 hl (by decide) rfl (fun ls hl => ?_)
  refine lv_iload hx hb dX7_readSymbol_23 (lv_at hl 3 rfl) ?_
  refine lv_iload hx hb dX7_readSymbol_25 (lv_at hl 0 rfl) ?_
  obtain ⟨r1, σ2, g3, h⟩ := of_bnd h
  refine x_SI (As := [.int v4, .int s0]) (rest := []) hF hl hP hS (c_X7_kindOfPair g3) (cw_X7_58 hC rfl rfl ⟨Nat.le_of_ble_eq_true rfl, Nat.le_of_ble_eq_true rfl⟩) rfl rfl (Nat.le_of_ble_eq_true rfl) dX7_readSymbol_27 ⟨Nat.zero_le _, Nat.zero_le _⟩ (fun H locs hP hS => ?_)
  refine lv_istore (lv' := [(6, .int r1), (5, .int s0), (0, .ref (E 1)), (3, .int v3), (4, .int v4)]) hx hb dX7_readSymbol_30 hl (by decide) rfl (fun ls hl => ?_)
  refine lv_iload hx hb dX7_readSymbol_32 (lv_at hl 0 rfl) ?_
  refine lv_sipush (v := 279) hx hb dX7_readSymbol_34 (by decide) ?_
  refine lv_icmp_eq (tgt := 52) hx hb dX7_readSymbol_37 (by decide) (fun c4 => ?_) (fun c4 => ?_)
  · have h := of_t h c4
    refine lv_aload_n hx hb dX7_readSymbol_52 rfl (lv_at hl 2 rfl) ?_
    obtain ⟨a5, v5, hRa5, hSTa5⟩ := hSW.1 _ (List.mem_of_getElem? (i := 1) rfl)
    refine va_ldcS hx hb hC.2.2.1 hRa5 dX7_readSymbol_53 ?_
    refine lv_iload hx hb dX7_readSymbol_55 (lv_at hl 4 rfl) ?_
    refine lv_i2c (v := (v4.toUInt32 % 65536).toInt32) hx hb dX7_readSymbol_57 rfl ?_
    obtain ⟨r6, σ7, g8, h⟩ := of_bnd h
    refine x_VIs (As := [.int ((v4.toUInt32 % 65536).toInt32)]) (rest := [.ref (E 1)]) hF hSTa5 hl hP hS (c_J0_indexOf_0f7a4 lokC g8) (cw_X7_64 hC rfl rfl ⟨Nat.le_of_ble_eq_true rfl, Nat.le_of_ble_eq_true rfl⟩) rfl rfl (Nat.le_of_ble_eq_true rfl) dX7_readSymbol_58 ⟨Nat.zero_le _, Nat.zero_le _⟩ (fun H locs hP hS => ?_)
    refine lv_if_lt (tgt := 69) hx hb dX7_readSymbol_61 (by decide) (fun c9 => ?_) (fun c9 => ?_)
    · have h := of_t h c9
      refine lv_sipush (v := 279) hx hb dX7_readSymbol_69 (by decide) ?_
      exact t_X7_readSymbol_72  hF v3 279 σ7 _ _ _ h hP hS (lv_sub hl [3] rfl)
    · have h := of_f h c9
      refine lv_iload hx hb dX7_readSymbol_64 (lv_at hl 4 rfl) ?_
      refine lv_goto (tgt := 72) hx hb dX7_readSymbol_66 (by decide) ?_
      exact t_X7_readSymbol_72  hF v3 v4 σ7 _ _ _ h hP hS (lv_sub hl [3] rfl)
  · have h := of_f h c4
    refine lv_aload_n hx hb dX7_readSymbol_40 rfl (lv_at hl 2 rfl) ?_
    refine lv_iload hx hb dX7_readSymbol_41 (lv_at hl 0 rfl) ?_
    refine lv_iload_n hx hb dX7_readSymbol_43 rfl (lv_at hl 3 rfl) ?_
    refine lv_lconst (v := 0) hx hb dX7_readSymbol_44 (by decide) ?_
    obtain ⟨r10, σ11, g12, h⟩ := of_bnd h
    refine x_VV (As := [.int r1, .int v3, .long 0]) (rest := []) hF hl hP hS (c_X7_put g12) (cw_X7_30 hC rfl rfl ⟨Nat.le_of_ble_eq_true rfl, Nat.le_of_ble_eq_true rfl⟩) lc_1 rfl rfl rfl (Nat.le_of_ble_eq_true rfl) dX7_readSymbol_45 ⟨Nat.zero_le _, Nat.zero_le _⟩ (fun H locs hP hS => ?_)
    refine lv_iload_n hx hb dX7_readSymbol_48 rfl (lv_at hl 3 rfl) ?_
    refine lv_iconst (v := 2) hx hb dX7_readSymbol_49 (by decide) ?_
    refine lv_iadd hx hb dX7_readSymbol_50 ?_
    exact x_iret hF hP hS h dX7_readSymbol_51

def f_X7_readSymbol (a2 : Int32) (a3 : Int32) (σ : Sta) : Option (Int32 × Sta) :=
  if a3 < 0 ∨ 1500 ≤ (a3.toNatClampNeg) then none else (
  lt (gA σ 8 (a3.toNatClampNeg)) (fun x2 =>
  if a2 ≤ a3 + 1 then
    f_X7_readSymbol_21 a3 x2 0 σ
  else
    if a3 + 1 < 0 ∨ 1500 ≤ ((a3 + 1).toNatClampNeg) then none else (
    f_X7_readSymbol_21 a3 x2 (gA σ 8 ((a3 + 1).toNatClampNeg)) σ)))
set_option maxHeartbeats 4000000 in
set_option maxRecDepth 100000 in
theorem c_X7_readSymbol {l : Launch} {D : va_G} {Y : CYs} {E : Nat → Nat} {a2 : Int32} {a3 : Int32} {σ : Sta} {o : Int32 × Sta} (h : f_X7_readSymbol a2 a3 σ = some o) : MI l yX7_readSymbol (Cond.code yX7_readSymbol cX7_readSymbol 7 (some .int) :: gW) rm_X7_readSymbol LC Y D E [.ref (E 1), .ref (E 8), .int a2, .int a3] σ o := by
  intro sz
  refine Met_of (Qc := fun sz => QI LC Y D E sz o) (by decide) (Nat.le_of_ble_eq_true rfl) (fun p e s m args below meth c hF hP ls hl => ?_) sz
  have hS : va_S (AF E LC.length s.heap.size) s.heap s.heap [] := va_S.rf
  have hl : lv_has ls 7 [(0, .ref (E 1)), (1, .ref (E 8)), (2, .int a2), (3, .int a3)] := hl
  show WI p l e rm_X7_readSymbol s m args below meth c LC Y D E o s.heap [] (F0 m 0 ls [])
  unfold f_X7_readSymbol at h
  obtain ⟨hC, hb, hml, hr, hlk, hD, hSW⟩ := id hF
  have hx := hC.1
  refine lv_aload_n hx hb dX7_readSymbol_0 rfl (lv_at hl 1 rfl) ?_
  refine lv_iload_n hx hb dX7_readSymbol_1 rfl (lv_at hl 3 rfl) ?_
  obtain ⟨g1, h⟩ := of_gd h
  refine x_iald hC hb hP lc_8 g1 dX7_readSymbol_2 ?_
  refine lv_topi (fun x2 ex2 => ?_)
  have h := of_lt h ex2
  refine lv_istore (lv' := [(4, .int x2), (0, .ref (E 1)), (1, .ref (E 8)), (2, .int a2), (3, .int a3)]) hx hb dX7_readSymbol_3 hl (by decide) rfl (fun ls hl => ?_)
  refine lv_iload_n hx hb dX7_readSymbol_5 rfl (lv_at hl 4 rfl) ?_
  refine lv_iconst (v := 1) hx hb dX7_readSymbol_6 (by decide) ?_
  refine lv_iadd hx hb dX7_readSymbol_7 ?_
  refine lv_iload_n hx hb dX7_readSymbol_8 rfl (lv_at hl 3 rfl) ?_
  refine lv_icmp_ge (tgt := 20) hx hb dX7_readSymbol_9 (by decide) (fun c3 => ?_) (fun c3 => ?_)
  · have h := of_t h c3
    refine lv_iconst (v := 0) hx hb dX7_readSymbol_20 (by decide) ?_
    exact t_X7_readSymbol_21  hF a3 x2 0 σ _ _ _ h hP hS (lv_sub hl [1, 4, 0] rfl)
  · have h := of_f h c3
    refine lv_aload_n hx hb dX7_readSymbol_12 rfl (lv_at hl 2 rfl) ?_
    refine lv_iload_n hx hb dX7_readSymbol_13 rfl (lv_at hl 4 rfl) ?_
    refine lv_iconst (v := 1) hx hb dX7_readSymbol_14 (by decide) ?_
    refine lv_iadd hx hb dX7_readSymbol_15 ?_
    obtain ⟨g4, h⟩ := of_gd h
    refine x_iald hC hb hP lc_8 g4 dX7_readSymbol_16 ?_
    refine lv_goto (tgt := 21) hx hb dX7_readSymbol_17 (by decide) ?_
    exact t_X7_readSymbol_21  hF a3 x2 (gA σ 8 ((a3 + 1).toNatClampNeg)) σ _ _ _ h hP hS (lv_sub hl [1, 4, 0] rfl)

abbrev rm_X7_readOne : Room := { frames := 7, cells := 0, slots := 0, locals := 164 }
def f_X7_readOne_19 (v3 : Int32) (σ : Sta) : Option (Int32 × Sta) :=
  some (v3 + 1, σ)
set_option maxHeartbeats 4000000 in
set_option maxRecDepth 100000 in
theorem t_X7_readOne_19 {l : Launch} {D : va_G} {Y : CYs} {E : Nat → Nat} {p : Program} {e : Env} {s : State} {m : MethodId} {args : Array Value} {below : List Frame} {meth : Method} {c : Code} (hF : Fr p s m args meth c RX7 cX7_readOne 5 (some .int) D Y E LC) {o : Int32 × Sta} : ∀ (v3 : Int32) (σ : Sta) (H : Heap) (locs : List Loc) (ls : Array Slot), f_X7_readOne_19 v3 σ = some o → va_P D vwCl (wd Y E σ 0 LC) H → va_S (AF E LC.length s.heap.size) s.heap H locs → lv_has ls 5 [(3, .int v3)] → WI p l e rm_X7_readOne s m args below meth c LC Y D E o H locs (F0 m 19 ls []) := by
  intro v3 σ H locs ls h hP hS hl
  unfold f_X7_readOne_19 at h
  obtain ⟨hC, hb, hml, hr, hlk, hD, hSW⟩ := id hF
  have hx := hC.1
  refine lv_iload_n hx hb dX7_readOne_19 rfl (lv_at hl 0 rfl) ?_
  refine lv_iconst (v := 1) hx hb dX7_readOne_20 (by decide) ?_
  refine lv_iadd hx hb dX7_readOne_21 ?_
  exact x_iret hF hP hS h dX7_readOne_22

def f_X7_readOne (a2 : Int32) (a3 : Int32) (σ : Sta) : Option (Int32 × Sta) :=
  if a3 < 0 ∨ 1500 ≤ (a3.toNatClampNeg) then none else (
  lt (gA σ 8 (a3.toNatClampNeg)) (fun x2 =>
  if x2 = 32 then
    f_X7_readOne_19 a3 σ
  else
    if x2 = 10 then
      f_X7_readOne_19 a3 σ
    else
      bnd (f_X7_isLetter x2 σ) (fun r5 σ6 =>
      if r5 = 0 then
        bnd (f_X7_isDigit x2 σ6) (fun r9 σ10 =>
        if r9 = 0 then
          bnd (f_X7_readSymbol a2 a3 σ10) (fun r13 σ14 =>
          some (r13, σ14))
        else
          bnd (f_X7_readNumber a2 a3 σ10) (fun r16 σ17 =>
          some (r16, σ17)))
      else
        bnd (f_X7_readWord a2 a3 σ6) (fun r19 σ20 =>
        some (r19, σ20)))))
set_option maxHeartbeats 4000000 in
set_option maxRecDepth 100000 in
theorem c_X7_readOne {l : Launch} {D : va_G} {Y : CYs} {E : Nat → Nat} {a2 : Int32} {a3 : Int32} {σ : Sta} {o : Int32 × Sta} (h : f_X7_readOne a2 a3 σ = some o) : MI l yX7_readOne (Cond.code yX7_readOne cX7_readOne 5 (some .int) :: gW) rm_X7_readOne LC Y D E [.ref (E 1), .ref (E 8), .int a2, .int a3] σ o := by
  intro sz
  refine Met_of (Qc := fun sz => QI LC Y D E sz o) (by decide) (Nat.le_of_ble_eq_true rfl) (fun p e s m args below meth c hF hP ls hl => ?_) sz
  have hS : va_S (AF E LC.length s.heap.size) s.heap s.heap [] := va_S.rf
  have hl : lv_has ls 5 [(0, .ref (E 1)), (1, .ref (E 8)), (2, .int a2), (3, .int a3)] := hl
  show WI p l e rm_X7_readOne s m args below meth c LC Y D E o s.heap [] (F0 m 0 ls [])
  unfold f_X7_readOne at h
  obtain ⟨hC, hb, hml, hr, hlk, hD, hSW⟩ := id hF
  have hx := hC.1
  refine lv_aload_n hx hb dX7_readOne_0 rfl (lv_at hl 1 rfl) ?_
  refine lv_iload_n hx hb dX7_readOne_1 rfl (lv_at hl 3 rfl) ?_
  obtain ⟨g1, h⟩ := of_gd h
  refine x_iald hC hb hP lc_8 g1 dX7_readOne_2 ?_
  refine lv_topi (fun x2 ex2 => ?_)
  have h := of_lt h ex2
  refine lv_istore (lv' := [(4, .int x2), (0, .ref (E 1)), (1, .ref (E 8)), (2, .int a2), (3, .int a3)]) hx hb dX7_readOne_3 hl (by decide) rfl (fun ls hl => ?_)
  refine lv_iload hx hb dX7_readOne_5 (lv_at hl 0 rfl) ?_
  refine lv_bipush (v := 32) hx hb dX7_readOne_7 (by decide) ?_
  refine lv_icmp_eq (tgt := 19) hx hb dX7_readOne_9 (by decide) (fun c3 => ?_) (fun c3 => ?_)
  · have h := of_t h c3
    exact t_X7_readOne_19  hF a3 σ _ _ _ h hP hS (lv_sub hl [4] rfl)
  · have h := of_f h c3
    refine lv_iload hx hb dX7_readOne_12 (lv_at hl 0 rfl) ?_
    refine lv_bipush (v := 10) hx hb dX7_readOne_14 (by decide) ?_
    refine lv_icmp_ne (tgt := 23) hx hb dX7_readOne_16 (by decide) (fun c4 => ?_) (fun c4 => ?_)
    · have h := of_f h c4
      refine lv_iload hx hb dX7_readOne_23 (lv_at hl 0 rfl) ?_
      obtain ⟨r5, σ6, g7, h⟩ := of_bnd h
      refine x_SI (As := [.int x2]) (rest := []) hF hl hP hS (c_X7_isLetter g7) (cw_X7_34 hC rfl rfl ⟨Nat.le_of_ble_eq_true rfl, Nat.le_of_ble_eq_true rfl⟩) rfl rfl (Nat.le_of_ble_eq_true rfl) dX7_readOne_25 ⟨Nat.zero_le _, Nat.zero_le _⟩ (fun H locs hP hS => ?_)
      refine lv_if_eq (tgt := 39) hx hb dX7_readOne_28 (by decide) (fun c8 => ?_) (fun c8 => ?_)
      · have h := of_t h c8
        refine lv_iload hx hb dX7_readOne_39 (lv_at hl 0 rfl) ?_
        obtain ⟨r9, σ10, g11, h⟩ := of_bnd h
        refine x_SI (As := [.int x2]) (rest := []) hF hl hP hS (c_X7_isDigit g11) (cw_X7_41 hC rfl rfl ⟨Nat.le_of_ble_eq_true rfl, Nat.le_of_ble_eq_true rfl⟩) rfl rfl (Nat.le_of_ble_eq_true rfl) dX7_readOne_41 ⟨Nat.zero_le _, Nat.zero_le _⟩ (fun H locs hP hS => ?_)
        refine lv_if_eq (tgt := 55) hx hb dX7_readOne_44 (by decide) (fun c12 => ?_) (fun c12 => ?_)
        · have h := of_t h c12
          refine lv_aload_n hx hb dX7_readOne_55 rfl (lv_at hl 1 rfl) ?_
          refine lv_aload_n hx hb dX7_readOne_56 rfl (lv_at hl 2 rfl) ?_
          refine lv_iload_n hx hb dX7_readOne_57 rfl (lv_at hl 3 rfl) ?_
          refine lv_iload_n hx hb dX7_readOne_58 rfl (lv_at hl 4 rfl) ?_
          obtain ⟨r13, σ14, g15, h⟩ := of_bnd h
          refine x_VI (As := [.ref (E 8), .int a2, .int a3]) (rest := []) hF hl hP hS (c_X7_readSymbol g15) (cw_X7_47 hC rfl rfl ⟨Nat.le_of_ble_eq_true rfl, Nat.le_of_ble_eq_true rfl⟩) lc_1 rfl rfl rfl (Nat.le_of_ble_eq_true rfl) dX7_readOne_59 ⟨Nat.zero_le _, Nat.zero_le _⟩ (fun H locs hP hS => ?_)
          exact x_iret hF hP hS h dX7_readOne_62
        · have h := of_f h c12
          refine lv_aload_n hx hb dX7_readOne_47 rfl (lv_at hl 1 rfl) ?_
          refine lv_aload_n hx hb dX7_readOne_48 rfl (lv_at hl 2 rfl) ?_
          refine lv_iload_n hx hb dX7_readOne_49 rfl (lv_at hl 3 rfl) ?_
          refine lv_iload_n hx hb dX7_readOne_50 rfl (lv_at hl 4 rfl) ?_
          obtain ⟨r16, σ17, g18, h⟩ := of_bnd h
          refine x_VI (As := [.ref (E 8), .int a2, .int a3]) (rest := []) hF hl hP hS (c_X7_readNumber g18) (cw_X7_44 hC rfl rfl ⟨Nat.le_of_ble_eq_true rfl, Nat.le_of_ble_eq_true rfl⟩) lc_1 rfl rfl rfl (Nat.le_of_ble_eq_true rfl) dX7_readOne_51 ⟨Nat.zero_le _, Nat.zero_le _⟩ (fun H locs hP hS => ?_)
          exact x_iret hF hP hS h dX7_readOne_54
      · have h := of_f h c8
        refine lv_aload_n hx hb dX7_readOne_31 rfl (lv_at hl 1 rfl) ?_
        refine lv_aload_n hx hb dX7_readOne_32 rfl (lv_at hl 2 rfl) ?_
        refine lv_iload_n hx hb dX7_readOne_33 rfl (lv_at hl 3 rfl) ?_
        refine lv_iload_n hx hb dX7_readOne_34 rfl (lv_at hl 4 rfl) ?_
        obtain ⟨r19, σ20, g21, h⟩ := of_bnd h
        refine x_VI (As := [.ref (E 8), .int a2, .int a3]) (rest := []) hF hl hP hS (c_X7_readWord g21) (cw_X7_38 hC rfl rfl ⟨Nat.le_of_ble_eq_true rfl, Nat.le_of_ble_eq_true rfl⟩) lc_1 rfl rfl rfl (Nat.le_of_ble_eq_true rfl) dX7_readOne_35 ⟨Nat.zero_le _, Nat.zero_le _⟩ (fun H locs hP hS => ?_)
        exact x_iret hF hP hS h dX7_readOne_38
    · have h := of_t h c4
      exact t_X7_readOne_19  hF a3 σ _ _ _ h hP hS (lv_sub hl [4] rfl)

abbrev rm_X7_read : Room := { frames := 8, cells := 0, slots := 0, locals := 188 }
def f_X7_read_37 (v2 : Int32) (σ : Sta) : Option (Unit × Sta) :=
  bnd (f_X7_put 278 v2 0 σ) (fun _ σ2 =>
  some ((), σ2))
set_option maxHeartbeats 4000000 in
set_option maxRecDepth 100000 in
theorem t_X7_read_37 {l : Launch} {D : va_G} {Y : CYs} {E : Nat → Nat} {p : Program} {e : Env} {s : State} {m : MethodId} {args : Array Value} {below : List Frame} {meth : Method} {c : Code} (hF : Fr p s m args meth c RX7 cX7_read 5 none D Y E LC) {o : Unit × Sta} : ∀ (v2 : Int32) (σ : Sta) (H : Heap) (locs : List Loc) (ls : Array Slot), f_X7_read_37 v2 σ = some o → va_P D vwCl (wd Y E σ 0 LC) H → va_S (AF E LC.length s.heap.size) s.heap H locs → lv_has ls 5 [(0, .ref (E 1)), (2, .int v2)] → WV p l e rm_X7_read s m args below meth c LC Y D E o H locs (F0 m 37 ls []) := by
  intro v2 σ H locs ls h hP hS hl
  unfold f_X7_read_37 at h
  obtain ⟨hC, hb, hml, hr, hlk, hD, hSW⟩ := id hF
  have hx := hC.1
  refine lv_aload_n hx hb dX7_read_37 rfl (lv_at hl 0 rfl) ?_
  refine lv_sipush (v := 278) hx hb dX7_read_38 (by decide) ?_
  refine lv_iload_n hx hb dX7_read_41 rfl (lv_at hl 1 rfl) ?_
  refine lv_lconst (v := 0) hx hb dX7_read_42 (by decide) ?_
  obtain ⟨r1, σ2, g3, h⟩ := of_bnd h
  refine x_VV (As := [.int 278, .int v2, .long 0]) (rest := []) hF hl hP hS (c_X7_put g3) (cw_X7_30 hC rfl rfl ⟨Nat.le_of_ble_eq_true rfl, Nat.le_of_ble_eq_true rfl⟩) lc_1 rfl rfl rfl (Nat.le_of_ble_eq_true rfl) dX7_read_43 ⟨Nat.zero_le _, Nat.zero_le _⟩ (fun H locs hP hS => ?_)
  exact x_vret hF hP hS h dX7_read_46

def f_X7_read_10 : Nat → Int32 → Int32 → Int32 → Sta → Option (Unit × Sta)
  | 0, _, _, _, _ => none
  | n + 1, v2, v3, v4, σ => if 1500 ≤ v4 then
      f_X7_read_37 v2 σ
    else
      if v2 ≤ v3 then
        f_X7_read_37 v2 σ
      else
        bnd (f_X7_readOne v2 v3 σ) (fun r3 σ4 =>
        lt (v4 + 1) (fun x6 =>
        f_X7_read_10 n v2 r3 x6 σ4))
set_option maxHeartbeats 4000000 in
set_option maxRecDepth 100000 in
theorem t_X7_read_10 {l : Launch} {D : va_G} {Y : CYs} {E : Nat → Nat} {p : Program} {e : Env} {s : State} {m : MethodId} {args : Array Value} {below : List Frame} {meth : Method} {c : Code} (hF : Fr p s m args meth c RX7 cX7_read 5 none D Y E LC) {o : Unit × Sta} : ∀ (n : Nat) (v2 : Int32) (v3 : Int32) (v4 : Int32) (σ : Sta) (H : Heap) (locs : List Loc) (ls : Array Slot), f_X7_read_10 n v2 v3 v4 σ = some o → va_P D vwCl (wd Y E σ 0 LC) H → va_S (AF E LC.length s.heap.size) s.heap H locs → lv_has ls 5 [(0, .ref (E 1)), (1, .ref (E 8)), (2, .int v2), (3, .int v3), (4, .int v4)] → WV p l e rm_X7_read s m args below meth c LC Y D E o H locs (F0 m 10 ls []) := by
  intro n
  induction n with
  | zero =>
    intro v2 v3 v4 σ H locs ls h hP hS hl
    exact nomatch (show (none : Option (Unit × Sta)) = some o from h)
  | succ n ih =>
    intro v2 v3 v4 σ H locs ls h hP hS hl
    rw [f_X7_read_10] at h
    obtain ⟨hC, hb, hml, hr, hlk, hD, hSW⟩ := id hF
    have hx := hC.1
    refine lv_iload hx hb dX7_read_10 (lv_at hl 4 rfl) ?_
    refine lv_sipush (v := 1500) hx hb dX7_read_12 (by decide) ?_
    refine lv_icmp_ge (tgt := 37) hx hb dX7_read_15 (by decide) (fun c1 => ?_) (fun c1 => ?_)
    · have h := of_t h c1
      exact t_X7_read_37  hF v2 σ _ _ _ h hP hS (lv_sub hl [0, 2] rfl)
    · have h := of_f h c1
      refine lv_iload_n hx hb dX7_read_18 rfl (lv_at hl 3 rfl) ?_
      refine lv_iload_n hx hb dX7_read_19 rfl (lv_at hl 2 rfl) ?_
      refine lv_icmp_ge (tgt := 37) hx hb dX7_read_20 (by decide) (fun c2 => ?_) (fun c2 => ?_)
      · have h := of_t h c2
        exact t_X7_read_37  hF v2 σ _ _ _ h hP hS (lv_sub hl [0, 2] rfl)
      · have h := of_f h c2
        refine lv_aload_n hx hb dX7_read_23 rfl (lv_at hl 0 rfl) ?_
        refine lv_aload_n hx hb dX7_read_24 rfl (lv_at hl 1 rfl) ?_
        refine lv_iload_n hx hb dX7_read_25 rfl (lv_at hl 2 rfl) ?_
        refine lv_iload_n hx hb dX7_read_26 rfl (lv_at hl 3 rfl) ?_
        obtain ⟨r3, σ4, g5, h⟩ := of_bnd h
        refine x_VI (As := [.ref (E 8), .int v2, .int v3]) (rest := []) hF hl hP hS (c_X7_readOne g5) (cw_X7_26 hC rfl rfl ⟨Nat.le_of_ble_eq_true rfl, Nat.le_of_ble_eq_true rfl⟩) lc_1 rfl rfl rfl (Nat.le_of_ble_eq_true rfl) dX7_read_27 ⟨Nat.zero_le _, Nat.zero_le _⟩ (fun H locs hP hS => ?_)
        refine lv_istore_n (lv' := [(3, .int r3), (0, .ref (E 1)), (1, .ref (E 8)), (2, .int v2), (4, .int v4)]) hx hb dX7_read_30 rfl hl (by decide) rfl (fun ls hl => ?_)
        obtain ⟨x6, ex6⟩ : ∃ y : Int32, y = v4 + 1 := ⟨_, rfl⟩
        have h := of_lt h ex6
        refine lv_iinc (v := x6) (lv' := [(4, .int x6), (3, .int r3), (0, .ref (E 1)), (1, .ref (E 8)), (2, .int v2)]) hx hb dX7_read_31 hl (k := 4) rfl (by rw [ex6]; rfl) (by decide) rfl (fun ls hl => ?_)
        refine lv_goto (tgt := 10) hx hb dX7_read_34 (by decide) ?_
        exact ih v2 r3 x6 σ4 _ _ _ h hP hS (lv_sub hl [2, 3, 4, 1, 0] rfl)

def f_X7_read (a2 : Int32) (σ : Sta) : Option (Unit × Sta) :=
  lt (sI σ 67 0) (fun σ1 =>
  f_X7_read_10 FU a2 0 0 σ1)
set_option maxHeartbeats 4000000 in
set_option maxRecDepth 100000 in
theorem c_X7_read {l : Launch} {D : va_G} {Y : CYs} {E : Nat → Nat} {a2 : Int32} {σ : Sta} {o : Unit × Sta} (h : f_X7_read a2 σ = some o) : MV l yX7_read (Cond.code yX7_read cX7_read 5 none :: gW) rm_X7_read LC Y D E [.ref (E 1), .ref (E 8), .int a2] σ o := by
  intro sz
  refine Met_of (Qc := fun sz => QV LC Y D E sz o) (by decide) (Nat.le_of_ble_eq_true rfl) (fun p e s m args below meth c hF hP ls hl => ?_) sz
  have hS : va_S (AF E LC.length s.heap.size) s.heap s.heap [] := va_S.rf
  have hl : lv_has ls 5 [(0, .ref (E 1)), (1, .ref (E 8)), (2, .int a2)] := hl
  show WV p l e rm_X7_read s m args below meth c LC Y D E o s.heap [] (F0 m 0 ls [])
  unfold f_X7_read at h
  obtain ⟨hC, hb, hml, hr, hlk, hD, hSW⟩ := id hF
  have hx := hC.1
  refine lv_aload_n hx hb dX7_read_0 rfl (lv_at hl 0 rfl) ?_
  refine lv_iconst (v := 0) hx hb dX7_read_1 (by decide) ?_
  refine pf_X7_22 hC hb hP hD hS dX7_read_2 (fun H locs σ1 eσ1 hP hS => ?_)
  have h := of_lt h eσ1
  refine lv_iconst (v := 0) hx hb dX7_read_5 (by decide) ?_
  refine lv_istore_n (lv' := [(3, .int 0), (0, .ref (E 1)), (1, .ref (E 8)), (2, .int a2)]) hx hb dX7_read_6 rfl hl (by decide) rfl (fun ls hl => ?_)
  refine lv_iconst (v := 0) hx hb dX7_read_7 (by decide) ?_
  refine lv_istore (lv' := [(4, .int 0), (3, .int 0), (0, .ref (E 1)), (1, .ref (E 8)), (2, .int a2)]) hx hb dX7_read_8 hl (by decide) rfl (fun ls hl => ?_)
  exact t_X7_read_10  hF FU a2 0 0 σ1 _ _ _ h hP hS (lv_sub hl [2, 3, 4, 1, 0] rfl)

abbrev rm_X7_kindOf : Room := { frames := 0, cells := 0, slots := 0, locals := 0 }
def f_X7_kindOf_24 (s0 : Int32) (σ : Sta) : Option (Int32 × Sta) :=
  some (s0, σ)
set_option maxHeartbeats 4000000 in
set_option maxRecDepth 100000 in
theorem t_X7_kindOf_24 {l : Launch} {D : va_G} {Y : CYs} {E : Nat → Nat} {p : Program} {e : Env} {s : State} {m : MethodId} {args : Array Value} {below : List Frame} {meth : Method} {c : Code} (hF : Fr p s m args meth c RX7 cX7_kindOf 2 (some .int) D Y E LC) {o : Int32 × Sta} : ∀ (s0 : Int32) (σ : Sta) (H : Heap) (locs : List Loc) (ls : Array Slot), f_X7_kindOf_24 s0 σ = some o → va_P D vwCl (wd Y E σ 0 LC) H → va_S (AF E LC.length s.heap.size) s.heap H locs → lv_has ls 2 [] → WI p l e rm_X7_kindOf s m args below meth c LC Y D E o H locs (F0 m 24 ls [.int s0]) := by
  intro s0 σ H locs ls h hP hS hl
  unfold f_X7_kindOf_24 at h
  obtain ⟨hC, hb, hml, hr, hlk, hD, hSW⟩ := id hF
  have hx := hC.1
  exact x_iret hF hP hS h dX7_kindOf_24

def f_X7_kindOf_21 (σ : Sta) : Option (Int32 × Sta) :=
  f_X7_kindOf_24 279 σ
set_option maxHeartbeats 4000000 in
set_option maxRecDepth 100000 in
theorem t_X7_kindOf_21 {l : Launch} {D : va_G} {Y : CYs} {E : Nat → Nat} {p : Program} {e : Env} {s : State} {m : MethodId} {args : Array Value} {below : List Frame} {meth : Method} {c : Code} (hF : Fr p s m args meth c RX7 cX7_kindOf 2 (some .int) D Y E LC) {o : Int32 × Sta} : ∀ (σ : Sta) (H : Heap) (locs : List Loc) (ls : Array Slot), f_X7_kindOf_21 σ = some o → va_P D vwCl (wd Y E σ 0 LC) H → va_S (AF E LC.length s.heap.size) s.heap H locs → lv_has ls 2 [] → WI p l e rm_X7_kindOf s m args below meth c LC Y D E o H locs (F0 m 21 ls []) := by
  intro σ H locs ls h hP hS hl
  unfold f_X7_kindOf_21 at h
  obtain ⟨hC, hb, hml, hr, hlk, hD, hSW⟩ := id hF
  have hx := hC.1
  refine lv_sipush (v := 279) hx hb dX7_kindOf_21 (by decide) ?_
  exact t_X7_kindOf_24  hF 279 σ _ _ _ h hP hS (lv_sub hl [] rfl)

def f_X7_kindOf (a1 : Int32) (σ : Sta) : Option (Int32 × Sta) :=
  if a1 < 0 then
    f_X7_kindOf_21 σ
  else
    if gI σ 67 ≤ a1 then
      f_X7_kindOf_21 σ
    else
      if a1 < 0 ∨ 1501 ≤ (a1.toNatClampNeg) then none else (
      f_X7_kindOf_24 (gA σ 11 (a1.toNatClampNeg)) σ)
set_option maxHeartbeats 4000000 in
set_option maxRecDepth 100000 in
theorem c_X7_kindOf {l : Launch} {D : va_G} {Y : CYs} {E : Nat → Nat} {a1 : Int32} {σ : Sta} {o : Int32 × Sta} (h : f_X7_kindOf a1 σ = some o) : MI l yX7_kindOf (Cond.code yX7_kindOf cX7_kindOf 2 (some .int) :: gW) rm_X7_kindOf LC Y D E [.ref (E 1), .int a1] σ o := by
  intro sz
  refine Met_of (Qc := fun sz => QI LC Y D E sz o) (by decide) (Nat.le_of_ble_eq_true rfl) (fun p e s m args below meth c hF hP ls hl => ?_) sz
  have hS : va_S (AF E LC.length s.heap.size) s.heap s.heap [] := va_S.rf
  have hl : lv_has ls 2 [(0, .ref (E 1)), (1, .int a1)] := hl
  show WI p l e rm_X7_kindOf s m args below meth c LC Y D E o s.heap [] (F0 m 0 ls [])
  unfold f_X7_kindOf at h
  obtain ⟨hC, hb, hml, hr, hlk, hD, hSW⟩ := id hF
  have hx := hC.1
  refine lv_iload_n hx hb dX7_kindOf_0 rfl (lv_at hl 1 rfl) ?_
  refine lv_if_lt (tgt := 21) hx hb dX7_kindOf_1 (by decide) (fun c1 => ?_) (fun c1 => ?_)
  · have h := of_t h c1
    exact t_X7_kindOf_21  hF σ _ _ _ h hP hS (lv_sub hl [] rfl)
  · have h := of_f h c1
    refine lv_iload_n hx hb dX7_kindOf_4 rfl (lv_at hl 1 rfl) ?_
    refine lv_aload_n hx hb dX7_kindOf_5 rfl (lv_at hl 0 rfl) ?_
    refine gf_X7_22 hC hb hP dX7_kindOf_6 ?_
    refine lv_icmp_ge (tgt := 21) hx hb dX7_kindOf_9 (by decide) (fun c2 => ?_) (fun c2 => ?_)
    · have h := of_t h c2
      exact t_X7_kindOf_21  hF σ _ _ _ h hP hS (lv_sub hl [] rfl)
    · have h := of_f h c2
      refine lv_aload_n hx hb dX7_kindOf_12 rfl (lv_at hl 0 rfl) ?_
      refine gf_X7_9 hC hb hP dX7_kindOf_13 ?_
      refine lv_iload_n hx hb dX7_kindOf_16 rfl (lv_at hl 1 rfl) ?_
      obtain ⟨g3, h⟩ := of_gd h
      refine x_iald hC hb hP lc_11 g3 dX7_kindOf_17 ?_
      refine lv_goto (tgt := 24) hx hb dX7_kindOf_18 (by decide) ?_
      exact t_X7_kindOf_24  hF (gA σ 11 (a1.toNatClampNeg)) σ _ _ _ h hP hS (lv_sub hl [] rfl)

abbrev rm_X7_contentOf : Room := { frames := 0, cells := 0, slots := 0, locals := 0 }
def f_X7_contentOf_22 (s0 : Int64) (σ : Sta) : Option (Int64 × Sta) :=
  some (s0, σ)
set_option maxHeartbeats 4000000 in
set_option maxRecDepth 100000 in
theorem t_X7_contentOf_22 {l : Launch} {D : va_G} {Y : CYs} {E : Nat → Nat} {p : Program} {e : Env} {s : State} {m : MethodId} {args : Array Value} {below : List Frame} {meth : Method} {c : Code} (hF : Fr p s m args meth c RX7 cX7_contentOf 2 (some .long) D Y E LC) {o : Int64 × Sta} : ∀ (s0 : Int64) (σ : Sta) (H : Heap) (locs : List Loc) (ls : Array Slot), f_X7_contentOf_22 s0 σ = some o → va_P D vwCl (wd Y E σ 0 LC) H → va_S (AF E LC.length s.heap.size) s.heap H locs → lv_has ls 2 [] → WL p l e rm_X7_contentOf s m args below meth c LC Y D E o H locs (F0 m 22 ls [.long s0]) := by
  intro s0 σ H locs ls h hP hS hl
  unfold f_X7_contentOf_22 at h
  obtain ⟨hC, hb, hml, hr, hlk, hD, hSW⟩ := id hF
  have hx := hC.1
  exact x_lret hF hP hS h dX7_contentOf_22

def f_X7_contentOf_21 (σ : Sta) : Option (Int64 × Sta) :=
  f_X7_contentOf_22 0 σ
set_option maxHeartbeats 4000000 in
set_option maxRecDepth 100000 in
theorem t_X7_contentOf_21 {l : Launch} {D : va_G} {Y : CYs} {E : Nat → Nat} {p : Program} {e : Env} {s : State} {m : MethodId} {args : Array Value} {below : List Frame} {meth : Method} {c : Code} (hF : Fr p s m args meth c RX7 cX7_contentOf 2 (some .long) D Y E LC) {o : Int64 × Sta} : ∀ (σ : Sta) (H : Heap) (locs : List Loc) (ls : Array Slot), f_X7_contentOf_21 σ = some o → va_P D vwCl (wd Y E σ 0 LC) H → va_S (AF E LC.length s.heap.size) s.heap H locs → lv_has ls 2 [] → WL p l e rm_X7_contentOf s m args below meth c LC Y D E o H locs (F0 m 21 ls []) := by
  intro σ H locs ls h hP hS hl
  unfold f_X7_contentOf_21 at h
  obtain ⟨hC, hb, hml, hr, hlk, hD, hSW⟩ := id hF
  have hx := hC.1
  refine lv_lconst (v := 0) hx hb dX7_contentOf_21 (by decide) ?_
  exact t_X7_contentOf_22  hF 0 σ _ _ _ h hP hS (lv_sub hl [] rfl)

def f_X7_contentOf (a1 : Int32) (σ : Sta) : Option (Int64 × Sta) :=
  if a1 < 0 then
    f_X7_contentOf_21 σ
  else
    if gI σ 67 ≤ a1 then
      f_X7_contentOf_21 σ
    else
      if a1 < 0 ∨ 1501 ≤ (a1.toNatClampNeg) then none else (
      f_X7_contentOf_22 (gJ σ 13 (a1.toNatClampNeg)) σ)
set_option maxHeartbeats 4000000 in
set_option maxRecDepth 100000 in
theorem c_X7_contentOf {l : Launch} {D : va_G} {Y : CYs} {E : Nat → Nat} {a1 : Int32} {σ : Sta} {o : Int64 × Sta} (h : f_X7_contentOf a1 σ = some o) : ML l yX7_contentOf (Cond.code yX7_contentOf cX7_contentOf 2 (some .long) :: gW) rm_X7_contentOf LC Y D E [.ref (E 1), .int a1] σ o := by
  intro sz
  refine Met_of (Qc := fun sz => QL LC Y D E sz o) (by decide) (Nat.le_of_ble_eq_true rfl) (fun p e s m args below meth c hF hP ls hl => ?_) sz
  have hS : va_S (AF E LC.length s.heap.size) s.heap s.heap [] := va_S.rf
  have hl : lv_has ls 2 [(0, .ref (E 1)), (1, .int a1)] := hl
  show WL p l e rm_X7_contentOf s m args below meth c LC Y D E o s.heap [] (F0 m 0 ls [])
  unfold f_X7_contentOf at h
  obtain ⟨hC, hb, hml, hr, hlk, hD, hSW⟩ := id hF
  have hx := hC.1
  refine lv_iload_n hx hb dX7_contentOf_0 rfl (lv_at hl 1 rfl) ?_
  refine lv_if_lt (tgt := 21) hx hb dX7_contentOf_1 (by decide) (fun c1 => ?_) (fun c1 => ?_)
  · have h := of_t h c1
    exact t_X7_contentOf_21  hF σ _ _ _ h hP hS (lv_sub hl [] rfl)
  · have h := of_f h c1
    refine lv_iload_n hx hb dX7_contentOf_4 rfl (lv_at hl 1 rfl) ?_
    refine lv_aload_n hx hb dX7_contentOf_5 rfl (lv_at hl 0 rfl) ?_
    refine gf_X7_22 hC hb hP dX7_contentOf_6 ?_
    refine lv_icmp_ge (tgt := 21) hx hb dX7_contentOf_9 (by decide) (fun c2 => ?_) (fun c2 => ?_)
    · have h := of_t h c2
      exact t_X7_contentOf_21  hF σ _ _ _ h hP hS (lv_sub hl [] rfl)
    · have h := of_f h c2
      refine lv_aload_n hx hb dX7_contentOf_12 rfl (lv_at hl 0 rfl) ?_
      refine gf_X7_18 hC hb hP dX7_contentOf_13 ?_
      refine lv_iload_n hx hb dX7_contentOf_16 rfl (lv_at hl 1 rfl) ?_
      obtain ⟨g3, h⟩ := of_gd h
      refine x_lald hC hb hP lc_13 g3 dX7_contentOf_17 ?_
      refine lv_goto (tgt := 22) hx hb dX7_contentOf_18 (by decide) ?_
      exact t_X7_contentOf_22  hF (gJ σ 13 (a1.toNatClampNeg)) σ _ _ _ h hP hS (lv_sub hl [] rfl)
