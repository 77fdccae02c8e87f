theorem gf_X10_26 {p : Program} {l : Launch} {e : Env} {R : Room} {s : State} {m : MethodId} {args : Array Value} {below : List Frame} {meth : Method} {c : Code} {H : Heap} {locs : List Loc} {cells slots : Nat} {Q : State → Prop} {D : va_G} {Y : CYs} {E : Nat → Nat} {σ : Sta} {cc : ByteArray} {pc : Nat} {ls : Array Slot} {rest : List Value} {X : List Dsc} (hC : Ctx p s m args RX10 D Y) (hb : c.code = cc) (hP : va_P D vwCl (wd Y E σ 0 (LM ++ X)) H) (hdg : decode cc pc = .ok (.getfield 26, 3)) (kk : W p l e R s m args below meth c H locs cells slots Q (F0 m (pc + 3) ls (.ref (E 6) :: rest))) : W p l e R s m args below meth c H locs cells slots Q (F0 m pc ls (.ref (E 0) :: rest)) :=
  x_getR hC hb hP inGX10 (lm_0 X) rfl 9 (by decide) rfl (gw_t (tb6 (List.mem_of_getElem? (i := 53) rfl)) rfl) rfl hdg kk
theorem gf_X10_195 {p : Program} {l : Launch} {e : Env} {R : Room} {s : State} {m : MethodId} {args : Array Value} {below : List Frame} {meth : Method} {c : Code} {H : Heap} {locs : List Loc} {cells slots : Nat} {Q : State → Prop} {D : va_G} {Y : CYs} {E : Nat → Nat} {σ : Sta} {cc : ByteArray} {pc : Nat} {ls : Array Slot} {rest : List Value} {X : List Dsc} (hC : Ctx p s m args RX10 D Y) (hb : c.code = cc) (hP : va_P D vwCl (wd Y E σ 0 (LM ++ X)) H) (hdg : decode cc pc = .ok (.getfield 195, 3)) (kk : W p l e R s m args below meth c H locs cells slots Q (F0 m (pc + 3) ls (.int (gI σ 8) :: rest))) : W p l e R s m args below meth c H locs cells slots Q (F0 m pc ls (.ref (E 0) :: rest)) :=
  x_getI hC hb hP inGX10 (lm_0 X) rfl 8 (by decide) rfl (gw_t (tb6 (List.mem_of_getElem? (i := 52) rfl)) rfl) rfl hdg kk
theorem pf_X10_292 {p : Program} {l : Launch} {e : Env} {R : Room} {s : State} {m : MethodId} {args : Array Value} {below : List Frame} {meth : Method} {c : Code} {H : Heap} {locs : List Loc} {cells slots : Nat} {Q : State → Prop} {D : va_G} {Y : CYs} {E : Nat → Nat} {σ : Sta} {cc : ByteArray} {pc : Nat} {ls : Array Slot} {rest : List Value} {X : List Dsc} (hX : Lok (LM ++ X)) {A : Nat → Prop} {H0 : Heap} {x : Int32} (hC : Ctx p s m args RX10 D Y) (hb : c.code = cc) (hP : va_P D vwCl (wd Y E σ 0 (LM ++ X)) H) (hD : ∀ τ, va_D A (wd Y E τ 0 (LM ++ X))) (hS : va_S A H0 H locs) (hdg : decode cc pc = .ok (.putfield 292, 3)) (kk : ∀ (H1 : Heap) (locs1 : List Loc) (τ : Sta), τ = sI σ 33 x → va_P D vwCl (wd Y E τ 0 (LM ++ X)) H1 → va_S A H0 H1 locs1 → W p l e R s m args below meth c H1 locs1 cells slots Q (F0 m (pc + 3) ls rest)) : W p l e R s m args below meth c H locs cells slots Q (F0 m pc ls (.int x :: .ref (E 0) :: rest)) :=
  x_putI hX hC hb hP hD hS inGX10 tyX10 tyX10_ok nmX10 (lm_0 X) rfl 33 (by decide) rfl (gw_t (tb6 (List.mem_of_getElem? (i := 77) rfl)) rfl) rfl rfl rfl rfl rfl hdg kk
theorem gf_X10_292 {p : Program} {l : Launch} {e : Env} {R : Room} {s : State} {m : MethodId} {args : Array Value} {below : List Frame} {meth : Method} {c : Code} {H : Heap} {locs : List Loc} {cells slots : Nat} {Q : State → Prop} {D : va_G} {Y : CYs} {E : Nat → Nat} {σ : Sta} {cc : ByteArray} {pc : Nat} {ls : Array Slot} {rest : List Value} {X : List Dsc} (hC : Ctx p s m args RX10 D Y) (hb : c.code = cc) (hP : va_P D vwCl (wd Y E σ 0 (LM ++ X)) H) (hdg : decode cc pc = .ok (.getfield 292, 3)) (kk : W p l e R s m args below meth c H locs cells slots Q (F0 m (pc + 3) ls (.int (gI σ 33) :: rest))) : W p l e R s m args below meth c H locs cells slots Q (F0 m pc ls (.ref (E 0) :: rest)) :=
  x_getI hC hb hP inGX10 (lm_0 X) rfl 33 (by decide) rfl (gw_t (tb6 (List.mem_of_getElem? (i := 77) rfl)) rfl) rfl hdg kk
theorem gf_X10_32 {p : Program} {l : Launch} {e : Env} {R : Room} {s : State} {m : MethodId} {args : Array Value} {below : List Frame} {meth : Method} {c : Code} {H : Heap} {locs : List Loc} {cells slots : Nat} {Q : State → Prop} {D : va_G} {Y : CYs} {E : Nat → Nat} {σ : Sta} {cc : ByteArray} {pc : Nat} {ls : Array Slot} {rest : List Value} {X : List Dsc} (hC : Ctx p s m args RX10 D Y) (hb : c.code = cc) (hP : va_P D vwCl (wd Y E σ 0 (LM ++ X)) H) (hdg : decode cc pc = .ok (.getfield 32, 3)) (kk : W p l e R s m args below meth c H locs cells slots Q (F0 m (pc + 3) ls (.ref (E 8) :: rest))) : W p l e R s m args below meth c H locs cells slots Q (F0 m pc ls (.ref (E 0) :: rest)) :=
  x_getR hC hb hP inGX10 (lm_0 X) rfl 12 (by decide) rfl (gw_t (tb6 (List.mem_of_getElem? (i := 56) rfl)) rfl) rfl hdg kk
theorem gf_X10_35 {p : Program} {l : Launch} {e : Env} {R : Room} {s : State} {m : MethodId} {args : Array Value} {below : List Frame} {meth : Method} {c : Code} {H : Heap} {locs : List Loc} {cells slots : Nat} {Q : State → Prop} {D : va_G} {Y : CYs} {E : Nat → Nat} {σ : Sta} {cc : ByteArray} {pc : Nat} {ls : Array Slot} {rest : List Value} {X : List Dsc} (hC : Ctx p s m args RX10 D Y) (hb : c.code = cc) (hP : va_P D vwCl (wd Y E σ 0 (LM ++ X)) H) (hdg : decode cc pc = .ok (.getfield 35, 3)) (kk : W p l e R s m args below meth c H locs cells slots Q (F0 m (pc + 3) ls (.ref (E 9) :: rest))) : W p l e R s m args below meth c H locs cells slots Q (F0 m pc ls (.ref (E 0) :: rest)) :=
  x_getR hC hb hP inGX10 (lm_0 X) rfl 13 (by decide) rfl (gw_t (tb6 (List.mem_of_getElem? (i := 57) rfl)) rfl) rfl hdg kk
theorem gf_X10_38 {p : Program} {l : Launch} {e : Env} {R : Room} {s : State} {m : MethodId} {args : Array Value} {below : List Frame} {meth : Method} {c : Code} {H : Heap} {locs : List Loc} {cells slots : Nat} {Q : State → Prop} {D : va_G} {Y : CYs} {E : Nat → Nat} {σ : Sta} {cc : ByteArray} {pc : Nat} {ls : Array Slot} {rest : List Value} {X : List Dsc} (hC : Ctx p s m args RX10 D Y) (hb : c.code = cc) (hP : va_P D vwCl (wd Y E σ 0 (LM ++ X)) H) (hdg : decode cc pc = .ok (.getfield 38, 3)) (kk : W p l e R s m args below meth c H locs cells slots Q (F0 m (pc + 3) ls (.ref (E 10) :: rest))) : W p l e R s m args below meth c H locs cells slots Q (F0 m pc ls (.ref (E 0) :: rest)) :=
  x_getR hC hb hP inGX10 (lm_0 X) rfl 14 (by decide) rfl (gw_t (tb6 (List.mem_of_getElem? (i := 58) rfl)) rfl) rfl hdg kk
theorem cw_X10_307 {R : Room} {p : Program} {s : State} {m : MethodId} {args : Array Value} {D : va_G} {Y : CYs} {rm : Room} {mc ms : Nat} (hC : Ctx p s m args RX10 D Y) (hrc : rm.cells = mc) (hrs : rm.slots = ms) (hR : rm.frames + 1 ≤ R.frames ∧ 8 + (3 + 11) + rm.locals ≤ R.locals) : CallW R s args RX10 RX10 307 yX10_newName cX10_newName 3 (some .long) (Cond.code yX10_newName cX10_newName 3 (some .long) :: gW) rm mc ms 0 :=
  cwV 0 hC.2.1 (gi_V (gw_t (tb7 (List.mem_of_getElem? (i := 93) rfl)) rfl) (gw_t (tb7 (List.mem_of_getElem? (i := 95) rfl)) rfl) (gw_s (q := (⟨"MarkovBenchModel", "newName", "()J"⟩, 57)) (lp5_ (List.mem_of_getElem? (i := 9) rfl))) (gw_t (tb1 (List.mem_of_getElem? (i := 10) rfl)) rfl) (gw_t (tb7 (List.mem_of_getElem? (i := 96) rfl)) rfl)) rfl hrc hrs ⟨rfl, by decide +kernel, by decide +kernel, by decide +kernel⟩ hR
theorem cw_X10_311 {R : Room} {p : Program} {s : State} {m : MethodId} {args : Array Value} {D : va_G} {Y : CYs} {rm : Room} {mc ms : Nat} (hC : Ctx p s m args RX10 D Y) (hrc : rm.cells = mc) (hrs : rm.slots = ms) (hR : rm.frames + 1 ≤ R.frames ∧ 8 + (3 + 11) + rm.locals ≤ R.locals) : CallW R s args RX10 RX10 311 yX10_wholeNumber cX10_wholeNumber 3 (some .int) (Cond.code yX10_wholeNumber cX10_wholeNumber 3 (some .int) :: gW) rm mc ms 0 :=
  cwV 0 hC.2.1 (gi_V (gw_t (tb7 (List.mem_of_getElem? (i := 105) rfl)) rfl) (gw_t (tb7 (List.mem_of_getElem? (i := 107) rfl)) rfl) (gw_s (q := (⟨"MarkovBenchModel", "wholeNumber", "()I"⟩, 57)) (lp5_ (List.mem_of_getElem? (i := 12) rfl))) (gw_t (tb1 (List.mem_of_getElem? (i := 10) rfl)) rfl) (gw_t (tb7 (List.mem_of_getElem? (i := 108) rfl)) rfl)) rfl hrc hrs ⟨rfl, by decide +kernel, by decide +kernel, by decide +kernel⟩ hR
theorem cw_X10_304 {R : Room} {p : Program} {s : State} {m : MethodId} {args : Array Value} {D : va_G} {Y : CYs} {rm : Room} {mc ms : Nat} (hC : Ctx p s m args RX10 D Y) (hrc : rm.cells = mc) (hrs : rm.slots = ms) (hR : rm.frames + 1 ≤ R.frames ∧ 8 + (2 + 11) + rm.locals ≤ R.locals) : CallW R s args RX10 RX10 304 yX10_whole cX10_whole 2 (some .int) (Cond.code yX10_whole cX10_whole 2 (some .int) :: gW) rm mc ms 0 :=
  cwV 0 hC.2.1 (gi_V (gw_t (tb7 (List.mem_of_getElem? (i := 119) rfl)) rfl) (gw_t (tb7 (List.mem_of_getElem? (i := 121) rfl)) rfl) (gw_s (q := (⟨"MarkovBenchModel", "whole", "()I"⟩, 57)) (lp5_ (List.mem_of_getElem? (i := 15) rfl))) (gw_t (tb1 (List.mem_of_getElem? (i := 10) rfl)) rfl) (gw_t (tb7 (List.mem_of_getElem? (i := 122) rfl)) rfl)) rfl hrc hrs ⟨rfl, by decide +kernel, by decide +kernel, by decide +kernel⟩ hR
theorem gf_X10_44 {p : Program} {l : Launch} {e : Env} {R : Room} {s : State} {m : MethodId} {args : Array Value} {below : List Frame} {meth : Method} {c : Code} {H : Heap} {locs : List Loc} {cells slots : Nat} {Q : State → Prop} {D : va_G} {Y : CYs} {E : Nat → Nat} {σ : Sta} {cc : ByteArray} {pc : Nat} {ls : Array Slot} {rest : List Value} {X : List Dsc} (hC : Ctx p s m args RX10 D Y) (hb : c.code = cc) (hP : va_P D vwCl (wd Y E σ 0 (LM ++ X)) H) (hdg : decode cc pc = .ok (.getfield 44, 3)) (kk : W p l e R s m args below meth c H locs cells slots Q (F0 m (pc + 3) ls (.ref (E 12) :: rest))) : W p l e R s m args below meth c H locs cells slots Q (F0 m pc ls (.ref (E 0) :: rest)) :=
  x_getR hC hb hP inGX10 (lm_0 X) rfl 17 (by decide) rfl (gw_t (tb6 (List.mem_of_getElem? (i := 61) rfl)) rfl) rfl hdg kk
theorem gf_X10_201 {p : Program} {l : Launch} {e : Env} {R : Room} {s : State} {m : MethodId} {args : Array Value} {below : List Frame} {meth : Method} {c : Code} {H : Heap} {locs : List Loc} {cells slots : Nat} {Q : State → Prop} {D : va_G} {Y : CYs} {E : Nat → Nat} {σ : Sta} {cc : ByteArray} {pc : Nat} {ls : Array Slot} {rest : List Value} {X : List Dsc} (hC : Ctx p s m args RX10 D Y) (hb : c.code = cc) (hP : va_P D vwCl (wd Y E σ 0 (LM ++ X)) H) (hdg : decode cc pc = .ok (.getfield 201, 3)) (kk : W p l e R s m args below meth c H locs cells slots Q (F0 m (pc + 3) ls (.int (gI σ 15) :: rest))) : W p l e R s m args below meth c H locs cells slots Q (F0 m pc ls (.ref (E 0) :: rest)) :=
  x_getI hC hb hP inGX10 (lm_0 X) rfl 15 (by decide) rfl (gw_t (tb6 (List.mem_of_getElem? (i := 59) rfl)) rfl) rfl hdg kk
theorem gf_X10_41 {p : Program} {l : Launch} {e : Env} {R : Room} {s : State} {m : MethodId} {args : Array Value} {below : List Frame} {meth : Method} {c : Code} {H : Heap} {locs : List Loc} {cells slots : Nat} {Q : State → Prop} {D : va_G} {Y : CYs} {E : Nat → Nat} {σ : Sta} {cc : ByteArray} {pc : Nat} {ls : Array Slot} {rest : List Value} {X : List Dsc} (hC : Ctx p s m args RX10 D Y) (hb : c.code = cc) (hP : va_P D vwCl (wd Y E σ 0 (LM ++ X)) H) (hdg : decode cc pc = .ok (.getfield 41, 3)) (kk : W p l e R s m args below meth c H locs cells slots Q (F0 m (pc + 3) ls (.ref (E 11) :: rest))) : W p l e R s m args below meth c H locs cells slots Q (F0 m pc ls (.ref (E 0) :: rest)) :=
  x_getR hC hb hP inGX10 (lm_0 X) rfl 16 (by decide) rfl (gw_t (tb6 (List.mem_of_getElem? (i := 60) rfl)) rfl) rfl hdg kk
theorem cw_X10_318 {R : Room} {p : Program} {s : State} {m : MethodId} {args : Array Value} {D : va_G} {Y : CYs} {rm : Room} (hC : Ctx p s m args RX10 D Y) (hrc : rm.cells = 0) (hrs : rm.slots = 0) (hR : rm.frames + 1 ≤ R.frames ∧ 8 + (5 + 11) + rm.locals ≤ R.locals) : CallW R s args RX10 RX10 318 yX10_isCommand cX10_isCommand 5 (some .boolean) (Cond.code yX10_isCommand cX10_isCommand 5 (some .boolean) :: gW) rm 0 0 1 :=
  cwV 1 hC.2.1 (gi_V (gw_t (tb7 (List.mem_of_getElem? (i := 115) rfl)) rfl) (gw_t (tb7 (List.mem_of_getElem? (i := 117) rfl)) rfl) (gw_s (q := (⟨"MarkovBenchModel", "isCommand", "(J)Z"⟩, 57)) (lp5_ (List.mem_of_getElem? (i := 14) rfl))) (gw_t (tb1 (List.mem_of_getElem? (i := 10) rfl)) rfl) (gw_t (tb7 (List.mem_of_getElem? (i := 118) rfl)) rfl)) rfl hrc hrs ⟨rfl, by decide +kernel, by decide +kernel, by decide +kernel⟩ hR
theorem gf_X10_62 {p : Program} {l : Launch} {e : Env} {R : Room} {s : State} {m : MethodId} {args : Array Value} {below : List Frame} {meth : Method} {c : Code} {H : Heap} {locs : List Loc} {cells slots : Nat} {Q : State → Prop} {D : va_G} {Y : CYs} {E : Nat → Nat} {σ : Sta} {cc : ByteArray} {pc : Nat} {ls : Array Slot} {rest : List Value} {X : List Dsc} (hC : Ctx p s m args RX10 D Y) (hb : c.code = cc) (hP : va_P D vwCl (wd Y E σ 0 (LM ++ X)) H) (hdg : decode cc pc = .ok (.getfield 62, 3)) (kk : W p l e R s m args below meth c H locs cells slots Q (F0 m (pc + 3) ls (.ref (E 18) :: rest))) : W p l e R s m args below meth c H locs cells slots Q (F0 m pc ls (.ref (E 0) :: rest)) :=
  x_getR hC hb hP inGX10 (lm_0 X) rfl 25 (by decide) rfl (gw_t (tb6 (List.mem_of_getElem? (i := 69) rfl)) rfl) rfl hdg kk
def f_X10_newName_87 (v1 : Int64) (σ : Sta) : Option ((Int64 ⊕ (Int32 × Int32)) × Sta) :=
  bnw (f_X10_take σ) (fun _ σ2 =>
  some (.inl v1, σ2))
set_option maxHeartbeats 4000000 in
set_option maxRecDepth 100000 in
theorem t_X10_newName_87 {l : Launch} {D : va_G} {Y : CYs} {E : Nat → Nat} {X : List Dsc} (hX : Lok (LM ++ X)) {p : Program} {e : Env} {s : State} {m : MethodId} {args : Array Value} {below : List Frame} {meth : Method} {c : Code} (hF : Fr p s m args meth c RX10 cX10_newName 3 (some .long) D Y E (LM ++ X)) {o : (Int64 ⊕ (Int32 × Int32)) × Sta} (ht : l.stackTraces = false) (htab : ∀ X u, o = (.inr X, u) → ∀ x ∈ c.exceptionTable.toList, False) : ∀ (v1 : Int64) (σ : Sta) (H : Heap) (locs : List Loc) (ls : Array Slot), f_X10_newName_87 v1 σ = some o → va_P D vwCl (wd Y E σ 0 (LM ++ X)) H → va_S (AF E (LM ++ X).length s.heap.size) s.heap H locs → lv_has ls 3 [(0, .ref (E 0)), (1, .long v1)] → W p l e (rmw 8 142 o) s m args below meth c H locs 0 0 (QwL below args s (LM ++ X) Y D E o) (F0 m 87 ls []) := by
  intro v1 σ H locs ls h hP hS hl
  unfold f_X10_newName_87 at h
  obtain ⟨hC, hb, hml, hr, hlk, hD, hSW⟩ := id hF
  have hx := hC.1
  refine lv_aload_n hx hb dX10_newName_87 rfl (lv_at hl 0 rfl) ?_
  rcases of_bnw h with ⟨r1, σ2, g3, h⟩ | ⟨Xx, σ2, g3, rfl⟩
  rotate_left
  · exact x_VTw (As := []) (rest := []) hF hl hP hS (c_X10_take hX ht g3) (cw_X10_241 hC rfl rfl ⟨Nat.le_of_ble_eq_true rfl, Nat.le_of_ble_eq_true rfl⟩) (lm_0 X) rfl rfl rfl (Nat.le_of_ble_eq_true rfl) dX10_newName_88 ⟨Nat.le_refl _, Nat.le_refl _⟩ (htab _ _ rfl)
  refine x_VV (As := []) (rest := []) hF hl hP hS (c_X10_take hX ht g3) (cw_X10_241 hC rfl rfl ⟨Nat.le_of_ble_eq_true rfl, Nat.le_of_ble_eq_true rfl⟩) (lm_0 X) rfl rfl rfl (Nat.le_of_ble_eq_true rfl) dX10_newName_88 ⟨Nat.zero_le _, Nat.zero_le _⟩ (fun H locs hP hS => ?_)
  refine lv_lload_n hx hb dX10_newName_91 rfl (lv_at hl 1 rfl) ?_
  exact x_lretW hF hP hS h dX10_newName_92

def f_X10_newName_47 (v1 : Int64) (s0 : Int32) (σ : Sta) : Option ((Int64 ⊕ (Int32 × Int32)) × Sta) :=
  if gI σ 29 < 0 ∨ 1501 ≤ ((gI σ 29).toNatClampNeg) then none else (
  bnw (f_X10_must s0 3 (gA σ 4 ((gI σ 29).toNatClampNeg)) σ) (fun _ σ3 =>
  if gI σ3 30 = 0 then
    f_X10_newName_87 v1 σ3
  else
    if gI σ3 8 < 0 ∨ 25 ≤ ((gI σ3 8).toNatClampNeg) then none else (
    lt (sJ σ3 6 (vp_updL (gJ σ3 6) ((gI σ3 8).toNatClampNeg) v1)) (fun σ7 =>
    lt (sI σ7 8 ((gI σ7 8) + 1)) (fun σ8 =>
    f_X10_newName_87 v1 σ8)))))
set_option maxHeartbeats 4000000 in
set_option maxRecDepth 100000 in
theorem t_X10_newName_47 {l : Launch} {D : va_G} {Y : CYs} {E : Nat → Nat} {X : List Dsc} (hX : Lok (LM ++ X)) {p : Program} {e : Env} {s : State} {m : MethodId} {args : Array Value} {below : List Frame} {meth : Method} {c : Code} (hF : Fr p s m args meth c RX10 cX10_newName 3 (some .long) D Y E (LM ++ X)) {o : (Int64 ⊕ (Int32 × Int32)) × Sta} (ht : l.stackTraces = false) (htab : ∀ X u, o = (.inr X, u) → ∀ x ∈ c.exceptionTable.toList, False) : ∀ (v1 : Int64) (s0 : Int32) (σ : Sta) (H : Heap) (locs : List Loc) (ls : Array Slot), f_X10_newName_47 v1 s0 σ = some o → va_P D vwCl (wd Y E σ 0 (LM ++ X)) H → va_S (AF E (LM ++ X).length s.heap.size) s.heap H locs → lv_has ls 3 [(0, .ref (E 0)), (1, .long v1)] → W p l e (rmw 8 142 o) s m args below meth c H locs 0 0 (QwL below args s (LM ++ X) Y D E o) (F0 m 47 ls [.int s0, .ref (E 0)]) := by
  intro v1 s0 σ H locs ls h hP hS hl
  unfold f_X10_newName_47 at h
  obtain ⟨hC, hb, hml, hr, hlk, hD, hSW⟩ := id hF
  have hx := hC.1
  refine lv_iconst (v := 3) hx hb dX10_newName_47 (by decide) ?_
  refine lv_aload_n hx hb dX10_newName_48 rfl (lv_at hl 0 rfl) ?_
  refine gf_X10_20 hC hb hP dX10_newName_49 ?_
  refine lv_aload_n hx hb dX10_newName_52 rfl (lv_at hl 0 rfl) ?_
  refine gf_X10_219 hC hb hP dX10_newName_53 ?_
  obtain ⟨g1, h⟩ := of_gd h
  refine x_iald hC hb hP (lm_4 X) g1 dX10_newName_56 ?_
  rcases of_bnw h with ⟨r2, σ3, g4, h⟩ | ⟨Xx, σ3, g4, rfl⟩
  rotate_left
  · exact x_VTw (As := [.int s0, .int 3, .int (gA σ 4 ((gI σ 29).toNatClampNeg))]) (rest := []) hF hl hP hS (c_X10_must hX ht g4) (cw_X10_288 hC rfl rfl ⟨Nat.le_of_ble_eq_true rfl, Nat.le_of_ble_eq_true rfl⟩) (lm_0 X) rfl rfl rfl (Nat.le_of_ble_eq_true rfl) dX10_newName_57 ⟨Nat.le_refl _, Nat.le_refl _⟩ (htab _ _ rfl)
  refine x_VV (As := [.int s0, .int 3, .int (gA σ 4 ((gI σ 29).toNatClampNeg))]) (rest := []) hF hl hP hS (c_X10_must hX ht g4) (cw_X10_288 hC rfl rfl ⟨Nat.le_of_ble_eq_true rfl, Nat.le_of_ble_eq_true rfl⟩) (lm_0 X) rfl rfl rfl (Nat.le_of_ble_eq_true rfl) dX10_newName_57 ⟨Nat.zero_le _, Nat.zero_le _⟩ (fun H locs hP hS => ?_)
  refine lv_aload_n hx hb dX10_newName_60 rfl (lv_at hl 0 rfl) ?_
  refine gf_X10_227 hC hb hP dX10_newName_61 ?_
  refine lv_if_eq (tgt := 87) hx hb dX10_newName_64 (by decide) (fun c5 => ?_) (fun c5 => ?_)
  · have h := of_t h c5
    exact t_X10_newName_87 hX  hF ht htab v1 σ3 _ _ _ h hP hS (lv_sub hl [0, 1] rfl)
  · have h := of_f h c5
    refine lv_aload_n hx hb dX10_newName_67 rfl (lv_at hl 0 rfl) ?_
    refine gf_X10_26 hC hb hP dX10_newName_68 ?_
    refine lv_aload_n hx hb dX10_newName_71 rfl (lv_at hl 0 rfl) ?_
    refine gf_X10_195 hC hb hP dX10_newName_72 ?_
    refine lv_lload_n hx hb dX10_newName_75 rfl (lv_at hl 1 rfl) ?_
    obtain ⟨g6, h⟩ := of_gd h
    refine x_last hX hC hb hP hD hS (lm_6 X) g6 dX10_newName_76 (fun H locs σ7 eσ7 hP hS => ?_)
    have h := of_lt h eσ7
    refine lv_aload_n hx hb dX10_newName_77 rfl (lv_at hl 0 rfl) ?_
    refine lv_dup hx hb dX10_newName_78 rfl ?_
    refine gf_X10_195 hC hb hP dX10_newName_79 ?_
    refine lv_iconst (v := 1) hx hb dX10_newName_82 (by decide) ?_
    refine lv_iadd hx hb dX10_newName_83 ?_
    refine pf_X10_195 hX hC hb hP hD hS dX10_newName_84 (fun H locs σ8 eσ8 hP hS => ?_)
    have h := of_lt h eσ8
    exact t_X10_newName_87 hX  hF ht htab v1 σ8 _ _ _ h hP hS (lv_sub hl [0, 1] rfl)

def f_X10_newName (σ : Sta) : Option ((Int64 ⊕ (Int32 × Int32)) × Sta) :=
  bnd (f_X10_is 200 σ) (fun r1 σ2 =>
  if r1 = 0 then
    bnr (f_X10_wrong σ2) (fun X11 => some (.inr X11, σ2))
  else
    if gI σ2 29 < 0 ∨ 1501 ≤ ((gI σ2 29).toNatClampNeg) then none else (
    lt (gJ σ2 5 ((gI σ2 29).toNatClampNeg)) (fun x6 =>
    bnd (f_X10_indexOf 6 25 (gI σ2 8) x6 σ2) (fun r7 σ8 =>
    if r7 = -1 then
      f_X10_newName_47 x6 1 σ8
    else
      f_X10_newName_47 x6 0 σ8))))
set_option maxHeartbeats 4000000 in
set_option maxRecDepth 100000 in
theorem c_X10_newName {l : Launch} {D : va_G} {Y : CYs} {E : Nat → Nat} {X : List Dsc} (hX : Lok (LM ++ X)) (ht : l.stackTraces = false) {σ : Sta} {o : (Int64 ⊕ (Int32 × Int32)) × Sta} (h : f_X10_newName σ = some o) : MWL l yX10_newName (Cond.code yX10_newName cX10_newName 3 (some .long) :: gW) 8 142 (LM ++ X) Y D E [.ref (E 0)] σ o := by
  refine Met_ofWL (by decide) (Nat.le_of_ble_eq_true rfl) (fun p e s m args below meth c hF hP htab ls hl => ?_)
  have hS : va_S (AF E (LM ++ X).length s.heap.size) s.heap s.heap [] := va_S.rf
  have hl : lv_has ls 3 [(0, .ref (E 0))] := hl
  show W p l e (rmw 8 142 o) s m args below meth c s.heap [] 0 0 (QwL below args s (LM ++ X) Y D E o) (F0 m 0 ls [])
  unfold f_X10_newName at h
  obtain ⟨hC, hb, hml, hr, hlk, hD, hSW⟩ := id hF
  have hx := hC.1
  refine lv_aload_n hx hb dX10_newName_0 rfl (lv_at hl 0 rfl) ?_
  refine lv_sipush (v := 200) hx hb dX10_newName_1 (by decide) ?_
  obtain ⟨r1, σ2, g3, h⟩ := of_bnd h
  refine x_VI (As := [.int 200]) (rest := []) hF hl hP hS (c_X10_is hX g3) (cw_X10_238 hC rfl rfl ⟨Nat.le_of_ble_eq_true rfl, Nat.le_of_ble_eq_true rfl⟩) (lm_0 X) rfl rfl rfl (Nat.le_of_ble_eq_true rfl) dX10_newName_4 ⟨Nat.zero_le _, Nat.zero_le _⟩ (fun H locs hP hS => ?_)
  refine lv_if_ne (tgt := 15) hx hb dX10_newName_7 (by decide) (fun c4 => ?_) (fun c4 => ?_)
  · have h := of_f h c4
    refine lv_aload_n hx hb dX10_newName_15 rfl (lv_at hl 0 rfl) ?_
    refine gf_X10_23 hC hb hP dX10_newName_16 ?_
    refine lv_aload_n hx hb dX10_newName_19 rfl (lv_at hl 0 rfl) ?_
    refine gf_X10_219 hC hb hP dX10_newName_20 ?_
    obtain ⟨g5, h⟩ := of_gd h
    refine x_lald hC hb hP (lm_5 X) g5 dX10_newName_23 ?_
    refine lv_topl (fun x6 ex6 => ?_)
    have h := of_lt h ex6
    refine lv_lstore_n (lv' := [(1, .long x6), (0, .ref (E 0))]) hx hb dX10_newName_24 rfl hl (by decide) rfl (fun ls hl => ?_)
    refine lv_aload_n hx hb dX10_newName_25 rfl (lv_at hl 1 rfl) ?_
    refine lv_aload_n hx hb dX10_newName_26 rfl (lv_at hl 1 rfl) ?_
    refine gf_X10_26 hC hb hP dX10_newName_27 ?_
    refine lv_aload_n hx hb dX10_newName_30 rfl (lv_at hl 1 rfl) ?_
    refine gf_X10_195 hC hb hP dX10_newName_31 ?_
    refine lv_lload_n hx hb dX10_newName_34 rfl (lv_at hl 0 rfl) ?_
    obtain ⟨r7, σ8, g9, h⟩ := of_bnd h
    refine x_SI (As := [.ref (E 6), .int (gI σ2 8), .long x6]) (rest := [.ref (E 0)]) hF hl hP hS (c_X10_indexOf hX (lm_6 X) g9) (cw_X10_183 hC rfl rfl ⟨Nat.le_of_ble_eq_true rfl, Nat.le_of_ble_eq_true rfl⟩) rfl rfl (Nat.le_of_ble_eq_true rfl) dX10_newName_35 ⟨Nat.zero_le _, Nat.zero_le _⟩ (fun H locs hP hS => ?_)
    refine lv_iconst (v := -1) hx hb dX10_newName_38 (by decide) ?_
    refine lv_icmp_ne (tgt := 46) hx hb dX10_newName_39 (by decide) (fun c10 => ?_) (fun c10 => ?_)
    · have h := of_f h c10
      refine lv_iconst (v := 0) hx hb dX10_newName_46 (by decide) ?_
      exact t_X10_newName_47 hX  hF ht htab x6 0 σ8 _ _ _ h hP hS (lv_sub hl [1, 0] rfl)
    · have h := of_t h c10
      refine lv_iconst (v := 1) hx hb dX10_newName_42 (by decide) ?_
      refine lv_goto (tgt := 47) hx hb dX10_newName_43 (by decide) ?_
      exact t_X10_newName_47 hX  hF ht htab x6 1 σ8 _ _ _ h hP hS (lv_sub hl [1, 0] rfl)
  · have h := of_t h c4
    refine lv_aload_n hx hb dX10_newName_10 rfl (lv_at hl 0 rfl) ?_
    obtain ⟨X11, g12, h⟩ := of_bnr h
    cases h
    refine x_VR (As := []) (rest := []) hF hl hP hS (c_X10_wrong hX ht g12) (cw_X10_234 hC rfl rfl ⟨Nat.le_of_ble_eq_true rfl, Nat.le_of_ble_eq_true rfl⟩) (lm_0 X) rfl rfl rfl (Nat.le_of_ble_eq_true rfl) dX10_newName_11 ⟨Nat.le_of_ble_eq_true rfl, Nat.le_of_ble_eq_true rfl⟩ (fun wa13 H locs hP hS hWwa13 => ?_)
    exact x_throwW hF hP hS hWwa13 (htab _ _ rfl) dX10_newName_14

def f_X10_wholeNumber_68 (s0 : Int32) (σ : Sta) : Option ((Int32 ⊕ (Int32 × Int32)) × Sta) :=
  some (.inl s0, σ)
set_option maxHeartbeats 4000000 in
set_option maxRecDepth 100000 in
theorem t_X10_wholeNumber_68 {l : Launch} {D : va_G} {Y : CYs} {E : Nat → Nat} {X : List Dsc} (hX : Lok (LM ++ X)) {p : Program} {e : Env} {s : State} {m : MethodId} {args : Array Value} {below : List Frame} {meth : Method} {c : Code} (hF : Fr p s m args meth c RX10 cX10_wholeNumber 3 (some .int) D Y E (LM ++ X)) {o : (Int32 ⊕ (Int32 × Int32)) × Sta} (ht : l.stackTraces = false) (htab : ∀ X u, o = (.inr X, u) → ∀ x ∈ c.exceptionTable.toList, False) : ∀ (s0 : Int32) (σ : Sta) (H : Heap) (locs : List Loc) (ls : Array Slot), f_X10_wholeNumber_68 s0 σ = some o → va_P D vwCl (wd Y E σ 0 (LM ++ X)) H → va_S (AF E (LM ++ X).length s.heap.size) s.heap H locs → lv_has ls 3 [] → W p l e (rmw 8 142 o) s m args below meth c H locs 0 0 (QwI below args s (LM ++ X) Y D E o) (F0 m 68 ls [.int s0]) := by
  intro s0 σ H locs ls h hP hS hl
  unfold f_X10_wholeNumber_68 at h
  obtain ⟨hC, hb, hml, hr, hlk, hD, hSW⟩ := id hF
  have hx := hC.1
  exact x_iretW hF hP hS h dX10_wholeNumber_68

def f_X10_wholeNumber_15 (v1 : Int32) (σ : Sta) : Option ((Int32 ⊕ (Int32 × Int32)) × Sta) :=
  bnd (f_X10_is 201 σ) (fun r1 σ2 =>
  if r1 = 0 then
    bnr (f_X10_wrong σ2) (fun X13 => some (.inr X13, σ2))
  else
    if gI σ2 29 < 0 ∨ 1501 ≤ ((gI σ2 29).toNatClampNeg) then none else (
    lt (sI σ2 33 (gA σ2 4 ((gI σ2 29).toNatClampNeg))) (fun σ6 =>
    if gI σ6 29 < 0 ∨ 1501 ≤ ((gI σ6 29).toNatClampNeg) then none else (
    lt ((gJ σ6 5 ((gI σ6 29).toNatClampNeg)).toInt32) (fun x8 =>
    bnw (f_X10_take σ6) (fun _ σ10 =>
    if v1 = 0 then
      f_X10_wholeNumber_68 x8 σ10
    else
      f_X10_wholeNumber_68 (-x8) σ10))))))
set_option maxHeartbeats 4000000 in
set_option maxRecDepth 100000 in
theorem t_X10_wholeNumber_15 {l : Launch} {D : va_G} {Y : CYs} {E : Nat → Nat} {X : List Dsc} (hX : Lok (LM ++ X)) {p : Program} {e : Env} {s : State} {m : MethodId} {args : Array Value} {below : List Frame} {meth : Method} {c : Code} (hF : Fr p s m args meth c RX10 cX10_wholeNumber 3 (some .int) D Y E (LM ++ X)) {o : (Int32 ⊕ (Int32 × Int32)) × Sta} (ht : l.stackTraces = false) (htab : ∀ X u, o = (.inr X, u) → ∀ x ∈ c.exceptionTable.toList, False) : ∀ (v1 : Int32) (σ : Sta) (H : Heap) (locs : List Loc) (ls : Array Slot), f_X10_wholeNumber_15 v1 σ = some o → va_P D vwCl (wd Y E σ 0 (LM ++ X)) H → va_S (AF E (LM ++ X).length s.heap.size) s.heap H locs → lv_has ls 3 [(0, .ref (E 0)), (1, .int v1)] → W p l e (rmw 8 142 o) s m args below meth c H locs 0 0 (QwI below args s (LM ++ X) Y D E o) (F0 m 15 ls []) := by
  intro v1 σ H locs ls h hP hS hl
  unfold f_X10_wholeNumber_15 at h
  obtain ⟨hC, hb, hml, hr, hlk, hD, hSW⟩ := id hF
  have hx := hC.1
  refine lv_aload_n hx hb dX10_wholeNumber_15 rfl (lv_at hl 0 rfl) ?_
  refine lv_sipush (v := 201) hx hb dX10_wholeNumber_16 (by decide) ?_
  obtain ⟨r1, σ2, g3, h⟩ := of_bnd h
  refine x_VI (As := [.int 201]) (rest := []) hF hl hP hS (c_X10_is hX g3) (cw_X10_238 hC rfl rfl ⟨Nat.le_of_ble_eq_true rfl, Nat.le_of_ble_eq_true rfl⟩) (lm_0 X) rfl rfl rfl (Nat.le_of_ble_eq_true rfl) dX10_wholeNumber_19 ⟨Nat.zero_le _, Nat.zero_le _⟩ (fun H locs hP hS => ?_)
  refine lv_if_ne (tgt := 30) hx hb dX10_wholeNumber_22 (by decide) (fun c4 => ?_) (fun c4 => ?_)
  · have h := of_f h c4
    refine lv_aload_n hx hb dX10_wholeNumber_30 rfl (lv_at hl 0 rfl) ?_
    refine lv_aload_n hx hb dX10_wholeNumber_31 rfl (lv_at hl 0 rfl) ?_
    refine gf_X10_20 hC hb hP dX10_wholeNumber_32 ?_
    refine lv_aload_n hx hb dX10_wholeNumber_35 rfl (lv_at hl 0 rfl) ?_
    refine gf_X10_219 hC hb hP dX10_wholeNumber_36 ?_
    obtain ⟨g5, h⟩ := of_gd h
    refine x_iald hC hb hP (lm_4 X) g5 dX10_wholeNumber_39 ?_
    refine pf_X10_292 hX hC hb hP hD hS dX10_wholeNumber_40 (fun H locs σ6 eσ6 hP hS => ?_)
    have h := of_lt h eσ6
    refine lv_aload_n hx hb dX10_wholeNumber_43 rfl (lv_at hl 0 rfl) ?_
    refine gf_X10_23 hC hb hP dX10_wholeNumber_44 ?_
    refine lv_aload_n hx hb dX10_wholeNumber_47 rfl (lv_at hl 0 rfl) ?_
    refine gf_X10_219 hC hb hP dX10_wholeNumber_48 ?_
    obtain ⟨g7, h⟩ := of_gd h
    refine x_lald hC hb hP (lm_5 X) g7 dX10_wholeNumber_51 ?_
    refine lv_l2i (v := (gJ σ6 5 ((gI σ6 29).toNatClampNeg)).toInt32) hx hb dX10_wholeNumber_52 rfl ?_
    refine lv_topi (fun x8 ex8 => ?_)
    have h := of_lt h ex8
    refine lv_istore_n (lv' := [(2, .int x8), (0, .ref (E 0)), (1, .int v1)]) hx hb dX10_wholeNumber_53 rfl hl (by decide) rfl (fun ls hl => ?_)
    refine lv_aload_n hx hb dX10_wholeNumber_54 rfl (lv_at hl 1 rfl) ?_
    rcases of_bnw h with ⟨r9, σ10, g11, h⟩ | ⟨Xx, σ10, g11, rfl⟩
    rotate_left
    · exact x_VTw (As := []) (rest := []) hF hl hP hS (c_X10_take hX ht g11) (cw_X10_241 hC rfl rfl ⟨Nat.le_of_ble_eq_true rfl, Nat.le_of_ble_eq_true rfl⟩) (lm_0 X) rfl rfl rfl (Nat.le_of_ble_eq_true rfl) dX10_wholeNumber_55 ⟨Nat.le_refl _, Nat.le_refl _⟩ (htab _ _ rfl)
    refine x_VV (As := []) (rest := []) hF hl hP hS (c_X10_take hX ht g11) (cw_X10_241 hC rfl rfl ⟨Nat.le_of_ble_eq_true rfl, Nat.le_of_ble_eq_true rfl⟩) (lm_0 X) rfl rfl rfl (Nat.le_of_ble_eq_true rfl) dX10_wholeNumber_55 ⟨Nat.zero_le _, Nat.zero_le _⟩ (fun H locs hP hS => ?_)
    refine lv_iload_n hx hb dX10_wholeNumber_58 rfl (lv_at hl 2 rfl) ?_
    refine lv_if_eq (tgt := 67) hx hb dX10_wholeNumber_59 (by decide) (fun c12 => ?_) (fun c12 => ?_)
    · have h := of_t h c12
      refine lv_iload_n hx hb dX10_wholeNumber_67 rfl (lv_at hl 0 rfl) ?_
      exact t_X10_wholeNumber_68 hX  hF ht htab x8 σ10 _ _ _ h hP hS (lv_sub hl [] rfl)
    · have h := of_f h c12
      refine lv_iload_n hx hb dX10_wholeNumber_62 rfl (lv_at hl 0 rfl) ?_
      refine lv_ineg hx hb dX10_wholeNumber_63 ?_
      refine lv_goto (tgt := 68) hx hb dX10_wholeNumber_64 (by decide) ?_
      exact t_X10_wholeNumber_68 hX  hF ht htab (-x8) σ10 _ _ _ h hP hS (lv_sub hl [] rfl)
  · have h := of_t h c4
    refine lv_aload_n hx hb dX10_wholeNumber_25 rfl (lv_at hl 0 rfl) ?_
    obtain ⟨X13, g14, h⟩ := of_bnr h
    cases h
    refine x_VR (As := []) (rest := []) hF hl hP hS (c_X10_wrong hX ht g14) (cw_X10_234 hC rfl rfl ⟨Nat.le_of_ble_eq_true rfl, Nat.le_of_ble_eq_true rfl⟩) (lm_0 X) rfl rfl rfl (Nat.le_of_ble_eq_true rfl) dX10_wholeNumber_26 ⟨Nat.le_of_ble_eq_true rfl, Nat.le_of_ble_eq_true rfl⟩ (fun wa15 H locs hP hS hWwa15 => ?_)
    exact x_throwW hF hP hS hWwa15 (htab _ _ rfl) dX10_wholeNumber_29

def f_X10_wholeNumber (σ : Sta) : Option ((Int32 ⊕ (Int32 × Int32)) × Sta) :=
  bnd (f_X10_is 107 σ) (fun r1 σ2 =>
  if r1 = 0 then
    f_X10_wholeNumber_15 r1 σ2
  else
    bnw (f_X10_take σ2) (fun _ σ6 =>
    f_X10_wholeNumber_15 r1 σ6))
set_option maxHeartbeats 4000000 in
set_option maxRecDepth 100000 in
theorem c_X10_wholeNumber {l : Launch} {D : va_G} {Y : CYs} {E : Nat → Nat} {X : List Dsc} (hX : Lok (LM ++ X)) (ht : l.stackTraces = false) {σ : Sta} {o : (Int32 ⊕ (Int32 × Int32)) × Sta} (h : f_X10_wholeNumber σ = some o) : MWI l yX10_wholeNumber (Cond.code yX10_wholeNumber cX10_wholeNumber 3 (some .int) :: gW) 8 142 (LM ++ X) Y D E [.ref (E 0)] σ o := by
  refine Met_ofWI (by decide) (Nat.le_of_ble_eq_true rfl) (fun p e s m args below meth c hF hP htab ls hl => ?_)
  have hS : va_S (AF E (LM ++ X).length s.heap.size) s.heap s.heap [] := va_S.rf
  have hl : lv_has ls 3 [(0, .ref (E 0))] := hl
  show W p l e (rmw 8 142 o) s m args below meth c s.heap [] 0 0 (QwI below args s (LM ++ X) Y D E o) (F0 m 0 ls [])
  unfold f_X10_wholeNumber at h
  obtain ⟨hC, hb, hml, hr, hlk, hD, hSW⟩ := id hF
  have hx := hC.1
  refine lv_aload_n hx hb dX10_wholeNumber_0 rfl (lv_at hl 0 rfl) ?_
  refine lv_bipush (v := 107) hx hb dX10_wholeNumber_1 (by decide) ?_
  obtain ⟨r1, σ2, g3, h⟩ := of_bnd h
  refine x_VI (As := [.int 107]) (rest := []) hF hl hP hS (c_X10_is hX g3) (cw_X10_238 hC rfl rfl ⟨Nat.le_of_ble_eq_true rfl, Nat.le_of_ble_eq_true rfl⟩) (lm_0 X) rfl rfl rfl (Nat.le_of_ble_eq_true rfl) dX10_wholeNumber_3 ⟨Nat.zero_le _, Nat.zero_le _⟩ (fun H locs hP hS => ?_)
  refine lv_istore_n (lv' := [(1, .int r1), (0, .ref (E 0))]) hx hb dX10_wholeNumber_6 rfl hl (by decide) rfl (fun ls hl => ?_)
  refine lv_iload_n hx hb dX10_wholeNumber_7 rfl (lv_at hl 0 rfl) ?_
  refine lv_if_eq (tgt := 15) hx hb dX10_wholeNumber_8 (by decide) (fun c4 => ?_) (fun c4 => ?_)
  · have h := of_t h c4
    exact t_X10_wholeNumber_15 hX  hF ht htab r1 σ2 _ _ _ h hP hS (lv_sub hl [1, 0] rfl)
  · have h := of_f h c4
    refine lv_aload_n hx hb dX10_wholeNumber_11 rfl (lv_at hl 1 rfl) ?_
    rcases of_bnw h with ⟨r5, σ6, g7, h⟩ | ⟨Xx, σ6, g7, rfl⟩
    rotate_left
    · exact x_VTw (As := []) (rest := []) hF hl hP hS (c_X10_take hX ht g7) (cw_X10_241 hC rfl rfl ⟨Nat.le_of_ble_eq_true rfl, Nat.le_of_ble_eq_true rfl⟩) (lm_0 X) rfl rfl rfl (Nat.le_of_ble_eq_true rfl) dX10_wholeNumber_12 ⟨Nat.le_refl _, Nat.le_refl _⟩ (htab _ _ rfl)
    refine x_VV (As := []) (rest := []) hF hl hP hS (c_X10_take hX ht g7) (cw_X10_241 hC rfl rfl ⟨Nat.le_of_ble_eq_true rfl, Nat.le_of_ble_eq_true rfl⟩) (lm_0 X) rfl rfl rfl (Nat.le_of_ble_eq_true rfl) dX10_wholeNumber_12 ⟨Nat.zero_le _, Nat.zero_le _⟩ (fun H locs hP hS => ?_)
    exact t_X10_wholeNumber_15 hX  hF ht htab r1 σ6 _ _ _ h hP hS (lv_sub hl [1, 0] rfl)

def f_X10_variable_93 (v1 : Int64) (v3 : Int32) (v4 : Int32) (v5 : Int32) (v6 : Int32) (s0 : Int32) (σ : Sta) : Option ((Unit ⊕ (Int32 × Int32)) × Sta) :=
  bnw (f_X10_must s0 5 (gI σ 33) σ) (fun _ σ2 =>
  bnd (f_X10_isIn v3.toInt64 v5.toInt64 v6.toInt64 σ2) (fun r4 σ5 =>
  bnw (f_X10_must r4 5 v4 σ5) (fun _ σ8 =>
  if gI σ8 30 = 0 then
    some (.inl (), σ8)
  else
    if gI σ8 10 < 0 ∨ 6 ≤ ((gI σ8 10).toNatClampNeg) then none else (
    lt (sJ σ8 7 (vp_updL (gJ σ8 7) ((gI σ8 10).toNatClampNeg) v1)) (fun σ12 =>
    if gI σ12 10 < 0 ∨ 6 ≤ ((gI σ12 10).toNatClampNeg) then none else (
    lt (sA σ12 8 (upd (gA σ12 8) ((gI σ12 10).toNatClampNeg) v3)) (fun σ14 =>
    if gI σ14 10 < 0 ∨ 6 ≤ ((gI σ14 10).toNatClampNeg) then none else (
    lt (sA σ14 9 (upd (gA σ14 9) ((gI σ14 10).toNatClampNeg) v5)) (fun σ16 =>
    if gI σ16 10 < 0 ∨ 6 ≤ ((gI σ16 10).toNatClampNeg) then none else (
    lt (sA σ16 10 (upd (gA σ16 10) ((gI σ16 10).toNatClampNeg) v6)) (fun σ18 =>
    lt (sI σ18 10 ((gI σ18 10) + 1)) (fun σ19 =>
    some (.inl (), σ19)))))))))))))
set_option maxHeartbeats 4000000 in
set_option maxRecDepth 100000 in
theorem t_X10_variable_93 {l : Launch} {D : va_G} {Y : CYs} {E : Nat → Nat} {X : List Dsc} (hX : Lok (LM ++ X)) {p : Program} {e : Env} {s : State} {m : MethodId} {args : Array Value} {below : List Frame} {meth : Method} {c : Code} (hF : Fr p s m args meth c RX10 cX10_variable 7 none D Y E (LM ++ X)) {o : (Unit ⊕ (Int32 × Int32)) × Sta} (ht : l.stackTraces = false) (htab : ∀ X u, o = (.inr X, u) → ∀ x ∈ c.exceptionTable.toList, False) : ∀ (v1 : Int64) (v3 : Int32) (v4 : Int32) (v5 : Int32) (v6 : Int32) (s0 : Int32) (σ : Sta) (H : Heap) (locs : List Loc) (ls : Array Slot), f_X10_variable_93 v1 v3 v4 v5 v6 s0 σ = some o → va_P D vwCl (wd Y E σ 0 (LM ++ X)) H → va_S (AF E (LM ++ X).length s.heap.size) s.heap H locs → lv_has ls 7 [(0, .ref (E 0)), (1, .long v1), (3, .int v3), (4, .int v4), (5, .int v5), (6, .int v6)] → W p l e (rmw 9 164 o) s m args below meth c H locs 0 0 (QwV below args s (LM ++ X) Y D E o) (F0 m 93 ls [.int s0, .ref (E 0)]) := by
  intro v1 v3 v4 v5 v6 s0 σ H locs ls h hP hS hl
  unfold f_X10_variable_93 at h
  obtain ⟨hC, hb, hml, hr, hlk, hD, hSW⟩ := id hF
  have hx := hC.1
  refine lv_iconst (v := 5) hx hb dX10_variable_93 (by decide) ?_
  refine lv_aload_n hx hb dX10_variable_94 rfl (lv_at hl 0 rfl) ?_
  refine gf_X10_292 hC hb hP dX10_variable_95 ?_
  rcases of_bnw h with ⟨r1, σ2, g3, h⟩ | ⟨Xx, σ2, g3, rfl⟩
  rotate_left
  · exact x_VTw (As := [.int s0, .int 5, .int (gI σ 33)]) (rest := []) hF hl hP hS (c_X10_must hX ht g3) (cw_X10_288 hC rfl rfl ⟨Nat.le_of_ble_eq_true rfl, Nat.le_of_ble_eq_true rfl⟩) (lm_0 X) rfl rfl rfl (Nat.le_of_ble_eq_true rfl) dX10_variable_98 ⟨Nat.le_refl _, Nat.le_refl _⟩ (htab _ _ rfl)
  refine x_VV (As := [.int s0, .int 5, .int (gI σ 33)]) (rest := []) hF hl hP hS (c_X10_must hX ht g3) (cw_X10_288 hC rfl rfl ⟨Nat.le_of_ble_eq_true rfl, Nat.le_of_ble_eq_true rfl⟩) (lm_0 X) rfl rfl rfl (Nat.le_of_ble_eq_true rfl) dX10_variable_98 ⟨Nat.zero_le _, Nat.zero_le _⟩ (fun H locs hP hS => ?_)
  refine lv_aload_n hx hb dX10_variable_101 rfl (lv_at hl 0 rfl) ?_
  refine lv_iload_n hx hb dX10_variable_102 rfl (lv_at hl 2 rfl) ?_
  refine lv_i2l (v := v3.toInt64) hx hb dX10_variable_103 rfl ?_
  refine lv_iload hx hb dX10_variable_104 (lv_at hl 4 rfl) ?_
  refine lv_i2l (v := v5.toInt64) hx hb dX10_variable_106 rfl ?_
  refine lv_iload hx hb dX10_variable_107 (lv_at hl 5 rfl) ?_
  refine lv_i2l (v := v6.toInt64) hx hb dX10_variable_109 rfl ?_
  obtain ⟨r4, σ5, g6, h⟩ := of_bnd h
  refine x_SI (As := [.long v3.toInt64, .long v5.toInt64, .long v6.toInt64]) (rest := [.ref (E 0)]) hF hl hP hS (c_X10_isIn hX g6) (cw_X10_154 hC rfl rfl ⟨Nat.le_of_ble_eq_true rfl, Nat.le_of_ble_eq_true rfl⟩) rfl rfl (Nat.le_of_ble_eq_true rfl) dX10_variable_110 ⟨Nat.zero_le _, Nat.zero_le _⟩ (fun H locs hP hS => ?_)
  refine lv_iconst (v := 5) hx hb dX10_variable_113 (by decide) ?_
  refine lv_iload hx hb dX10_variable_114 (lv_at hl 3 rfl) ?_
  rcases of_bnw h with ⟨r7, σ8, g9, h⟩ | ⟨Xx, σ8, g9, rfl⟩
  rotate_left
  · exact x_VTw (As := [.int r4, .int 5, .int v4]) (rest := []) hF hl hP hS (c_X10_must hX ht g9) (cw_X10_288 hC rfl rfl ⟨Nat.le_of_ble_eq_true rfl, Nat.le_of_ble_eq_true rfl⟩) (lm_0 X) rfl rfl rfl (Nat.le_of_ble_eq_true rfl) dX10_variable_116 ⟨Nat.le_refl _, Nat.le_refl _⟩ (htab _ _ rfl)
  refine x_VV (As := [.int r4, .int 5, .int v4]) (rest := []) hF hl hP hS (c_X10_must hX ht g9) (cw_X10_288 hC rfl rfl ⟨Nat.le_of_ble_eq_true rfl, Nat.le_of_ble_eq_true rfl⟩) (lm_0 X) rfl rfl rfl (Nat.le_of_ble_eq_true rfl) dX10_variable_116 ⟨Nat.zero_le _, Nat.zero_le _⟩ (fun H locs hP hS => ?_)
  refine lv_aload_n hx hb dX10_variable_119 rfl (lv_at hl 0 rfl) ?_
  refine gf_X10_227 hC hb hP dX10_variable_120 ?_
  refine lv_if_ne (tgt := 127) hx hb dX10_variable_123 (by decide) (fun c10 => ?_) (fun c10 => ?_)
  · have h := of_f h c10
    refine lv_aload_n hx hb dX10_variable_127 rfl (lv_at hl 0 rfl) ?_
    refine gf_X10_29 hC hb hP dX10_variable_128 ?_
    refine lv_aload_n hx hb dX10_variable_131 rfl (lv_at hl 0 rfl) ?_
    refine gf_X10_198 hC hb hP dX10_variable_132 ?_
    refine lv_lload_n hx hb dX10_variable_135 rfl (lv_at hl 1 rfl) ?_
    obtain ⟨g11, h⟩ := of_gd h
    refine x_last hX hC hb hP hD hS (lm_7 X) g11 dX10_variable_136 (fun H locs σ12 eσ12 hP hS => ?_)
    have h := of_lt h eσ12
    refine lv_aload_n hx hb dX10_variable_137 rfl (lv_at hl 0 rfl) ?_
    refine gf_X10_32 hC hb hP dX10_variable_138 ?_
    refine lv_aload_n hx hb dX10_variable_141 rfl (lv_at hl 0 rfl) ?_
    refine gf_X10_198 hC hb hP dX10_variable_142 ?_
    refine lv_iload_n hx hb dX10_variable_145 rfl (lv_at hl 2 rfl) ?_
    obtain ⟨g13, h⟩ := of_gd h
    refine x_iast hX hC hb hP hD hS (lm_8 X) g13 dX10_variable_146 (fun H locs σ14 eσ14 hP hS => ?_)
    have h := of_lt h eσ14
    refine lv_aload_n hx hb dX10_variable_147 rfl (lv_at hl 0 rfl) ?_
    refine gf_X10_35 hC hb hP dX10_variable_148 ?_
    refine lv_aload_n hx hb dX10_variable_151 rfl (lv_at hl 0 rfl) ?_
    refine gf_X10_198 hC hb hP dX10_variable_152 ?_
    refine lv_iload hx hb dX10_variable_155 (lv_at hl 4 rfl) ?_
    obtain ⟨g15, h⟩ := of_gd h
    refine x_iast hX hC hb hP hD hS (lm_9 X) g15 dX10_variable_157 (fun H locs σ16 eσ16 hP hS => ?_)
    have h := of_lt h eσ16
    refine lv_aload_n hx hb dX10_variable_158 rfl (lv_at hl 0 rfl) ?_
    refine gf_X10_38 hC hb hP dX10_variable_159 ?_
    refine lv_aload_n hx hb dX10_variable_162 rfl (lv_at hl 0 rfl) ?_
    refine gf_X10_198 hC hb hP dX10_variable_163 ?_
    refine lv_iload hx hb dX10_variable_166 (lv_at hl 5 rfl) ?_
    obtain ⟨g17, h⟩ := of_gd h
    refine x_iast hX hC hb hP hD hS (lm_10 X) g17 dX10_variable_168 (fun H locs σ18 eσ18 hP hS => ?_)
    have h := of_lt h eσ18
    refine lv_aload_n hx hb dX10_variable_169 rfl (lv_at hl 0 rfl) ?_
    refine lv_dup hx hb dX10_variable_170 rfl ?_
    refine gf_X10_198 hC hb hP dX10_variable_171 ?_
    refine lv_iconst (v := 1) hx hb dX10_variable_174 (by decide) ?_
    refine lv_iadd hx hb dX10_variable_175 ?_
    refine pf_X10_198 hX hC hb hP hD hS dX10_variable_176 (fun H locs σ19 eσ19 hP hS => ?_)
    have h := of_lt h eσ19
    exact x_vretW hF hP hS h dX10_variable_179
  · have h := of_t h c10
    exact x_vretW hF hP hS h dX10_variable_126

def f_X10_variable_92 (v1 : Int64) (v3 : Int32) (v4 : Int32) (v5 : Int32) (v6 : Int32) (σ : Sta) : Option ((Unit ⊕ (Int32 × Int32)) × Sta) :=
  f_X10_variable_93 v1 v3 v4 v5 v6 0 σ
set_option maxHeartbeats 4000000 in
set_option maxRecDepth 100000 in
theorem t_X10_variable_92 {l : Launch} {D : va_G} {Y : CYs} {E : Nat → Nat} {X : List Dsc} (hX : Lok (LM ++ X)) {p : Program} {e : Env} {s : State} {m : MethodId} {args : Array Value} {below : List Frame} {meth : Method} {c : Code} (hF : Fr p s m args meth c RX10 cX10_variable 7 none D Y E (LM ++ X)) {o : (Unit ⊕ (Int32 × Int32)) × Sta} (ht : l.stackTraces = false) (htab : ∀ X u, o = (.inr X, u) → ∀ x ∈ c.exceptionTable.toList, False) : ∀ (v1 : Int64) (v3 : Int32) (v4 : Int32) (v5 : Int32) (v6 : Int32) (σ : Sta) (H : Heap) (locs : List Loc) (ls : Array Slot), f_X10_variable_92 v1 v3 v4 v5 v6 σ = some o → va_P D vwCl (wd Y E σ 0 (LM ++ X)) H → va_S (AF E (LM ++ X).length s.heap.size) s.heap H locs → lv_has ls 7 [(0, .ref (E 0)), (1, .long v1), (3, .int v3), (4, .int v4), (5, .int v5), (6, .int v6)] → W p l e (rmw 9 164 o) s m args below meth c H locs 0 0 (QwV below args s (LM ++ X) Y D E o) (F0 m 92 ls [.ref (E 0)]) := by
  intro v1 v3 v4 v5 v6 σ H locs ls h hP hS hl
  unfold f_X10_variable_92 at h
  obtain ⟨hC, hb, hml, hr, hlk, hD, hSW⟩ := id hF
  have hx := hC.1
  refine lv_iconst (v := 0) hx hb dX10_variable_92 (by decide) ?_
  exact t_X10_variable_93 hX  hF ht htab v1 v3 v4 v5 v6 0 σ _ _ _ h hP hS (lv_sub hl [0, 1, 2, 3, 4, 5] rfl)

def f_X10_variable (σ : Sta) : Option ((Unit ⊕ (Int32 × Int32)) × Sta) :=
  bnw (f_X10_newName σ) (fun r1 σ2 =>
  bnw (f_X10_take_ 105 σ2) (fun _ σ5 =>
  bnw (f_X10_wholeNumber σ5) (fun r7 σ8 =>
  lt (gI σ8 33) (fun x10 =>
  bnw (f_X10_take_ 1 σ8) (fun _ σ12 =>
  bnw (f_X10_wholeNumber σ12) (fun r14 σ15 =>
  bnd (f_X10_isIn r14.toInt64 (-99) 99 σ15) (fun r17 σ18 =>
  bnw (f_X10_must r17 5 (gI σ18 33) σ18) (fun _ σ21 =>
  bnw (f_X10_take_ 2 σ21) (fun _ σ24 =>
  bnw (f_X10_wholeNumber σ24) (fun r26 σ27 =>
  bnd (f_X10_isIn r26.toInt64 (-99) 99 σ27) (fun r29 σ30 =>
  if r29 = 0 then
    f_X10_variable_92 r1 r7 x10 r14 r26 σ30
  else
    if r26 < r14 then
      f_X10_variable_92 r1 r7 x10 r14 r26 σ30
    else
      f_X10_variable_93 r1 r7 x10 r14 r26 1 σ30)))))))))))
set_option maxHeartbeats 4000000 in
set_option maxRecDepth 100000 in
theorem c_X10_variable {l : Launch} {D : va_G} {Y : CYs} {E : Nat → Nat} {X : List Dsc} (hX : Lok (LM ++ X)) (ht : l.stackTraces = false) {σ : Sta} {o : (Unit ⊕ (Int32 × Int32)) × Sta} (h : f_X10_variable σ = some o) : MWV l yX10_variable (Cond.code yX10_variable cX10_variable 7 none :: gW) 9 164 (LM ++ X) Y D E [.ref (E 0)] σ o := by
  refine Met_ofWV (by decide) (Nat.le_of_ble_eq_true rfl) (fun p e s m args below meth c hF hP htab ls hl => ?_)
  have hS : va_S (AF E (LM ++ X).length s.heap.size) s.heap s.heap [] := va_S.rf
  have hl : lv_has ls 7 [(0, .ref (E 0))] := hl
  show W p l e (rmw 9 164 o) s m args below meth c s.heap [] 0 0 (QwV below args s (LM ++ X) Y D E o) (F0 m 0 ls [])
  unfold f_X10_variable at h
  obtain ⟨hC, hb, hml, hr, hlk, hD, hSW⟩ := id hF
  have hx := hC.1
  refine lv_aload_n hx hb dX10_variable_0 rfl (lv_at hl 0 rfl) ?_
  rcases of_bnw h with ⟨r1, σ2, g3, h⟩ | ⟨Xx, σ2, g3, rfl⟩
  rotate_left
  · exact x_VTw (As := []) (rest := []) hF hl hP hS (c_X10_newName hX ht g3) (cw_X10_307 hC rfl rfl ⟨Nat.le_of_ble_eq_true rfl, Nat.le_of_ble_eq_true rfl⟩) (lm_0 X) rfl rfl rfl (Nat.le_of_ble_eq_true rfl) dX10_variable_1 ⟨Nat.le_refl _, Nat.le_refl _⟩ (htab _ _ rfl)
  refine x_VL (As := []) (rest := []) hF hl hP hS (c_X10_newName hX ht g3) (cw_X10_307 hC rfl rfl ⟨Nat.le_of_ble_eq_true rfl, Nat.le_of_ble_eq_true rfl⟩) (lm_0 X) rfl rfl rfl (Nat.le_of_ble_eq_true rfl) dX10_variable_1 ⟨Nat.zero_le _, Nat.zero_le _⟩ (fun H locs hP hS => ?_)
  refine lv_lstore_n (lv' := [(1, .long r1), (0, .ref (E 0))]) hx hb dX10_variable_4 rfl hl (by decide) rfl (fun ls hl => ?_)
  refine lv_aload_n hx hb dX10_variable_5 rfl (lv_at hl 1 rfl) ?_
  refine lv_bipush (v := 105) hx hb dX10_variable_6 (by decide) ?_
  rcases of_bnw h with ⟨r4, σ5, g6, h⟩ | ⟨Xx, σ5, g6, rfl⟩
  rotate_left
  · exact x_VTw (As := [.int 105]) (rest := []) hF hl hP hS (c_X10_take_ hX ht g6) (cw_X10_286 hC rfl rfl ⟨Nat.le_of_ble_eq_true rfl, Nat.le_of_ble_eq_true rfl⟩) (lm_0 X) rfl rfl rfl (Nat.le_of_ble_eq_true rfl) dX10_variable_8 ⟨Nat.le_refl _, Nat.le_refl _⟩ (htab _ _ rfl)
  refine x_VV (As := [.int 105]) (rest := []) hF hl hP hS (c_X10_take_ hX ht g6) (cw_X10_286 hC rfl rfl ⟨Nat.le_of_ble_eq_true rfl, Nat.le_of_ble_eq_true rfl⟩) (lm_0 X) rfl rfl rfl (Nat.le_of_ble_eq_true rfl) dX10_variable_8 ⟨Nat.zero_le _, Nat.zero_le _⟩ (fun H locs hP hS => ?_)
  refine lv_aload_n hx hb dX10_variable_11 rfl (lv_at hl 1 rfl) ?_
  rcases of_bnw h with ⟨r7, σ8, g9, h⟩ | ⟨Xx, σ8, g9, rfl⟩
  rotate_left
  · exact x_VTw (As := []) (rest := []) hF hl hP hS (c_X10_wholeNumber hX ht g9) (cw_X10_311 hC rfl rfl ⟨Nat.le_of_ble_eq_true rfl, Nat.le_of_ble_eq_true rfl⟩) (lm_0 X) rfl rfl rfl (Nat.le_of_ble_eq_true rfl) dX10_variable_12 ⟨Nat.le_refl _, Nat.le_refl _⟩ (htab _ _ rfl)
  refine x_VI (As := []) (rest := []) hF hl hP hS (c_X10_wholeNumber hX ht g9) (cw_X10_311 hC rfl rfl ⟨Nat.le_of_ble_eq_true rfl, Nat.le_of_ble_eq_true rfl⟩) (lm_0 X) rfl rfl rfl (Nat.le_of_ble_eq_true rfl) dX10_variable_12 ⟨Nat.zero_le _, Nat.zero_le _⟩ (fun H locs hP hS => ?_)
  refine lv_istore_n (lv' := [(3, .int r7), (1, .long r1), (0, .ref (E 0))]) hx hb dX10_variable_15 rfl hl (by decide) rfl (fun ls hl => ?_)
  refine lv_aload_n hx hb dX10_variable_16 rfl (lv_at hl 2 rfl) ?_
  refine gf_X10_292 hC hb hP dX10_variable_17 ?_
  refine lv_topi (fun x10 ex10 => ?_)
  have h := of_lt h ex10
  refine lv_istore (lv' := [(4, .int x10), (3, .int r7), (1, .long r1), (0, .ref (E 0))]) hx hb dX10_variable_20 hl (by decide) rfl (fun ls hl => ?_)
  refine lv_aload_n hx hb dX10_variable_22 rfl (lv_at hl 3 rfl) ?_
  refine lv_iconst (v := 1) hx hb dX10_variable_23 (by decide) ?_
  rcases of_bnw h with ⟨r11, σ12, g13, h⟩ | ⟨Xx, σ12, g13, rfl⟩
  rotate_left
  · exact x_VTw (As := [.int 1]) (rest := []) hF hl hP hS (c_X10_take_ hX ht g13) (cw_X10_286 hC rfl rfl ⟨Nat.le_of_ble_eq_true rfl, Nat.le_of_ble_eq_true rfl⟩) (lm_0 X) rfl rfl rfl (Nat.le_of_ble_eq_true rfl) dX10_variable_24 ⟨Nat.le_refl _, Nat.le_refl _⟩ (htab _ _ rfl)
  refine x_VV (As := [.int 1]) (rest := []) hF hl hP hS (c_X10_take_ hX ht g13) (cw_X10_286 hC rfl rfl ⟨Nat.le_of_ble_eq_true rfl, Nat.le_of_ble_eq_true rfl⟩) (lm_0 X) rfl rfl rfl (Nat.le_of_ble_eq_true rfl) dX10_variable_24 ⟨Nat.zero_le _, Nat.zero_le _⟩ (fun H locs hP hS => ?_)
  refine lv_aload_n hx hb dX10_variable_27 rfl (lv_at hl 3 rfl) ?_
  rcases of_bnw h with ⟨r14, σ15, g16, h⟩ | ⟨Xx, σ15, g16, rfl⟩
  rotate_left
  · exact x_VTw (As := []) (rest := []) hF hl hP hS (c_X10_wholeNumber hX ht g16) (cw_X10_311 hC rfl rfl ⟨Nat.le_of_ble_eq_true rfl, Nat.le_of_ble_eq_true rfl⟩) (lm_0 X) rfl rfl rfl (Nat.le_of_ble_eq_true rfl) dX10_variable_28 ⟨Nat.le_refl _, Nat.le_refl _⟩ (htab _ _ rfl)
  refine x_VI (As := []) (rest := []) hF hl hP hS (c_X10_wholeNumber hX ht g16) (cw_X10_311 hC rfl rfl ⟨Nat.le_of_ble_eq_true rfl, Nat.le_of_ble_eq_true rfl⟩) (lm_0 X) rfl rfl rfl (Nat.le_of_ble_eq_true rfl) dX10_variable_28 ⟨Nat.zero_le _, Nat.zero_le _⟩ (fun H locs hP hS => ?_)
  refine lv_istore (lv' := [(5, .int r14), (4, .int x10), (3, .int r7), (1, .long r1), (0, .ref (E 0))]) hx hb dX10_variable_31 hl (by decide) rfl (fun ls hl => ?_)
  refine lv_aload_n hx hb dX10_variable_33 rfl (lv_at hl 4 rfl) ?_
  refine lv_iload hx hb dX10_variable_34 (lv_at hl 0 rfl) ?_
  refine lv_i2l (v := r14.toInt64) hx hb dX10_variable_36 rfl ?_
  refine lv_ldc2 (v := -99) hx hb hC.2.2.1 (hC.2.1 (Cond.constantLong RX10 314 (-99)) (gw_t (tb7 (List.mem_of_getElem? (i := 109) rfl)) rfl)) dX10_variable_37 ?_
  refine lv_ldc2 (v := 99) hx hb hC.2.2.1 (hC.2.1 (Cond.constantLong RX10 316 99) (gw_t (tb7 (List.mem_of_getElem? (i := 110) rfl)) rfl)) dX10_variable_40 ?_
  obtain ⟨r17, σ18, g19, h⟩ := of_bnd h
  refine x_SI (As := [.long r14.toInt64, .long (-99), .long 99]) (rest := [.ref (E 0)]) hF hl hP hS (c_X10_isIn hX g19) (cw_X10_154 hC rfl rfl ⟨Nat.le_of_ble_eq_true rfl, Nat.le_of_ble_eq_true rfl⟩) rfl rfl (Nat.le_of_ble_eq_true rfl) dX10_variable_43 ⟨Nat.zero_le _, Nat.zero_le _⟩ (fun H locs hP hS => ?_)
  refine lv_iconst (v := 5) hx hb dX10_variable_46 (by decide) ?_
  refine lv_aload_n hx hb dX10_variable_47 rfl (lv_at hl 4 rfl) ?_
  refine gf_X10_292 hC hb hP dX10_variable_48 ?_
  rcases of_bnw h with ⟨r20, σ21, g22, h⟩ | ⟨Xx, σ21, g22, rfl⟩
  rotate_left
  · exact x_VTw (As := [.int r17, .int 5, .int (gI σ18 33)]) (rest := []) hF hl hP hS (c_X10_must hX ht g22) (cw_X10_288 hC rfl rfl ⟨Nat.le_of_ble_eq_true rfl, Nat.le_of_ble_eq_true rfl⟩) (lm_0 X) rfl rfl rfl (Nat.le_of_ble_eq_true rfl) dX10_variable_51 ⟨Nat.le_refl _, Nat.le_refl _⟩ (htab _ _ rfl)
  refine x_VV (As := [.int r17, .int 5, .int (gI σ18 33)]) (rest := []) hF hl hP hS (c_X10_must hX ht g22) (cw_X10_288 hC rfl rfl ⟨Nat.le_of_ble_eq_true rfl, Nat.le_of_ble_eq_true rfl⟩) (lm_0 X) rfl rfl rfl (Nat.le_of_ble_eq_true rfl) dX10_variable_51 ⟨Nat.zero_le _, Nat.zero_le _⟩ (fun H locs hP hS => ?_)
  refine lv_aload_n hx hb dX10_variable_54 rfl (lv_at hl 4 rfl) ?_
  refine lv_iconst (v := 2) hx hb dX10_variable_55 (by decide) ?_
  rcases of_bnw h with ⟨r23, σ24, g25, h⟩ | ⟨Xx, σ24, g25, rfl⟩
  rotate_left
  · exact x_VTw (As := [.int 2]) (rest := []) hF hl hP hS (c_X10_take_ hX ht g25) (cw_X10_286 hC rfl rfl ⟨Nat.le_of_ble_eq_true rfl, Nat.le_of_ble_eq_true rfl⟩) (lm_0 X) rfl rfl rfl (Nat.le_of_ble_eq_true rfl) dX10_variable_56 ⟨Nat.le_refl _, Nat.le_refl _⟩ (htab _ _ rfl)
  refine x_VV (As := [.int 2]) (rest := []) hF hl hP hS (c_X10_take_ hX ht g25) (cw_X10_286 hC rfl rfl ⟨Nat.le_of_ble_eq_true rfl, Nat.le_of_ble_eq_true rfl⟩) (lm_0 X) rfl rfl rfl (Nat.le_of_ble_eq_true rfl) dX10_variable_56 ⟨Nat.zero_le _, Nat.zero_le _⟩ (fun H locs hP hS => ?_)
  refine lv_aload_n hx hb dX10_variable_59 rfl (lv_at hl 4 rfl) ?_
  rcases of_bnw h with ⟨r26, σ27, g28, h⟩ | ⟨Xx, σ27, g28, rfl⟩
  rotate_left
  · exact x_VTw (As := []) (rest := []) hF hl hP hS (c_X10_wholeNumber hX ht g28) (cw_X10_311 hC rfl rfl ⟨Nat.le_of_ble_eq_true rfl, Nat.le_of_ble_eq_true rfl⟩) (lm_0 X) rfl rfl rfl (Nat.le_of_ble_eq_true rfl) dX10_variable_60 ⟨Nat.le_refl _, Nat.le_refl _⟩ (htab _ _ rfl)
  refine x_VI (As := []) (rest := []) hF hl hP hS (c_X10_wholeNumber hX ht g28) (cw_X10_311 hC rfl rfl ⟨Nat.le_of_ble_eq_true rfl, Nat.le_of_ble_eq_true rfl⟩) (lm_0 X) rfl rfl rfl (Nat.le_of_ble_eq_true rfl) dX10_variable_60 ⟨Nat.zero_le _, Nat.zero_le _⟩ (fun H locs hP hS => ?_)
  refine lv_istore (lv' := [(6, .int r26), (5, .int r14), (4, .int x10), (3, .int r7), (1, .long r1), (0, .ref (E 0))]) hx hb dX10_variable_63 hl (by decide) rfl (fun ls hl => ?_)
  refine lv_aload_n hx hb dX10_variable_65 rfl (lv_at hl 5 rfl) ?_
  refine lv_iload hx hb dX10_variable_66 (lv_at hl 0 rfl) ?_
  refine lv_i2l (v := r26.toInt64) hx hb dX10_variable_68 rfl ?_
  refine lv_ldc2 (v := -99) hx hb hC.2.2.1 (hC.2.1 (Cond.constantLong RX10 314 (-99)) (gw_t (tb7 (List.mem_of_getElem? (i := 109) rfl)) rfl)) dX10_variable_69 ?_
  refine lv_ldc2 (v := 99) hx hb hC.2.2.1 (hC.2.1 (Cond.constantLong RX10 316 99) (gw_t (tb7 (List.mem_of_getElem? (i := 110) rfl)) rfl)) dX10_variable_72 ?_
  obtain ⟨r29, σ30, g31, h⟩ := of_bnd h
  refine x_SI (As := [.long r26.toInt64, .long (-99), .long 99]) (rest := [.ref (E 0)]) hF hl hP hS (c_X10_isIn hX g31) (cw_X10_154 hC rfl rfl ⟨Nat.le_of_ble_eq_true rfl, Nat.le_of_ble_eq_true rfl⟩) rfl rfl (Nat.le_of_ble_eq_true rfl) dX10_variable_75 ⟨Nat.zero_le _, Nat.zero_le _⟩ (fun H locs hP hS => ?_)
  refine lv_if_eq (tgt := 92) hx hb dX10_variable_78 (by decide) (fun c32 => ?_) (fun c32 => ?_)
  · have h := of_t h c32
    exact t_X10_variable_92 hX  hF ht htab r1 r7 x10 r14 r26 σ30 _ _ _ h hP hS (lv_sub hl [5, 4, 3, 2, 1, 0] rfl)
  · have h := of_f h c32
    refine lv_iload hx hb dX10_variable_81 (lv_at hl 0 rfl) ?_
    refine lv_iload hx hb dX10_variable_83 (lv_at hl 1 rfl) ?_
    refine lv_icmp_lt (tgt := 92) hx hb dX10_variable_85 (by decide) (fun c33 => ?_) (fun c33 => ?_)
    · have h := of_t h c33
      exact t_X10_variable_92 hX  hF ht htab r1 r7 x10 r14 r26 σ30 _ _ _ h hP hS (lv_sub hl [5, 4, 3, 2, 1, 0] rfl)
    · have h := of_f h c33
      refine lv_iconst (v := 1) hx hb dX10_variable_88 (by decide) ?_
      refine lv_goto (tgt := 93) hx hb dX10_variable_89 (by decide) ?_
      exact t_X10_variable_93 hX  hF ht htab r1 r7 x10 r14 r26 1 σ30 _ _ _ h hP hS (lv_sub hl [5, 4, 3, 2, 1, 0] rfl)

abbrev rm_X10_isCommand : Room := { frames := 0, cells := 0, slots := 0, locals := 0 }
def f_X10_isCommand_66 (k5 : Int64 → Int32 → Int32 → Sta → Option (Int32 × Sta)) (v1 : Int64) (v4 : Int32) (s0 : Int32) (σ : Sta) : Option (Int32 × Sta) :=
  lt (v4 + 1) (fun x1 =>
  k5 v1 s0 x1 σ)
set_option maxHeartbeats 4000000 in
set_option maxRecDepth 100000 in
theorem t_X10_isCommand_66 {l : Launch} {D : va_G} {Y : CYs} {E : Nat → Nat} {X : List Dsc} (hX : Lok (LM ++ X)) {p : Program} {e : Env} {s : State} {m : MethodId} {args : Array Value} {below : List Frame} {meth : Method} {c : Code} (hF : Fr p s m args meth c RX10 cX10_isCommand 5 (some .boolean) D Y E (LM ++ X)) {o : Int32 × Sta} (k5 : Int64 → Int32 → Int32 → Sta → Option (Int32 × Sta)) (hk5 : ∀ (v1 : Int64) (v3 : Int32) (v4 : Int32) (σ : Sta) (H : Heap) (locs : List Loc) (ls : Array Slot), k5 v1 v3 v4 σ = some o → va_P D vwCl (wd Y E σ 0 (LM ++ X)) H → va_S (AF E (LM ++ X).length s.heap.size) s.heap H locs → lv_has ls 5 [(0, .ref (E 0)), (1, .long v1), (3, .int v3), (4, .int v4)] → WI p l e rm_X10_isCommand s m args below meth c (LM ++ X) Y D E o H locs (F0 m 5 ls [])) : ∀ (v1 : Int64) (v4 : Int32) (s0 : Int32) (σ : Sta) (H : Heap) (locs : List Loc) (ls : Array Slot), f_X10_isCommand_66 k5 v1 v4 s0 σ = some o → va_P D vwCl (wd Y E σ 0 (LM ++ X)) H → va_S (AF E (LM ++ X).length s.heap.size) s.heap H locs → lv_has ls 5 [(0, .ref (E 0)), (1, .long v1), (4, .int v4)] → WI p l e rm_X10_isCommand s m args below meth c (LM ++ X) Y D E o H locs (F0 m 66 ls [.int s0]) := by
  intro v1 v4 s0 σ H locs ls h hP hS hl
  unfold f_X10_isCommand_66 at h
  obtain ⟨hC, hb, hml, hr, hlk, hD, hSW⟩ := id hF
  have hx := hC.1
  refine lv_istore_n (lv' := [(3, .int s0), (0, .ref (E 0)), (1, .long v1), (4, .int v4)]) hx hb dX10_isCommand_66 rfl hl (by decide) rfl (fun ls hl => ?_)
  obtain ⟨x1, ex1⟩ : ∃ y : Int32, y = v4 + 1 := ⟨_, rfl⟩
  have h := of_lt h ex1
  refine lv_iinc (v := x1) (lv' := [(4, .int x1), (3, .int s0), (0, .ref (E 0)), (1, .long v1)]) hx hb dX10_isCommand_67 hl (k := 3) rfl (by rw [ex1]; rfl) (by decide) rfl (fun ls hl => ?_)
  refine lv_goto (tgt := 5) hx hb dX10_isCommand_70 (by decide) ?_
  exact hk5 v1 s0 x1 σ _ _ _ h hP hS (lv_sub hl [2, 3, 1, 0] rfl)

def f_X10_isCommand_61 (k5 : Int64 → Int32 → Int32 → Sta → Option (Int32 × Sta)) (v1 : Int64) (v4 : Int32) (σ : Sta) : Option (Int32 × Sta) :=
  f_X10_isCommand_66 k5 v1 v4 1 σ
set_option maxHeartbeats 4000000 in
set_option maxRecDepth 100000 in
theorem t_X10_isCommand_61 {l : Launch} {D : va_G} {Y : CYs} {E : Nat → Nat} {X : List Dsc} (hX : Lok (LM ++ X)) {p : Program} {e : Env} {s : State} {m : MethodId} {args : Array Value} {below : List Frame} {meth : Method} {c : Code} (hF : Fr p s m args meth c RX10 cX10_isCommand 5 (some .boolean) D Y E (LM ++ X)) {o : Int32 × Sta} (k5 : Int64 → Int32 → Int32 → Sta → Option (Int32 × Sta)) (hk5 : ∀ (v1 : Int64) (v3 : Int32) (v4 : Int32) (σ : Sta) (H : Heap) (locs : List Loc) (ls : Array Slot), k5 v1 v3 v4 σ = some o → va_P D vwCl (wd Y E σ 0 (LM ++ X)) H → va_S (AF E (LM ++ X).length s.heap.size) s.heap H locs → lv_has ls 5 [(0, .ref (E 0)), (1, .long v1), (3, .int v3), (4, .int v4)] → WI p l e rm_X10_isCommand s m args below meth c (LM ++ X) Y D E o H locs (F0 m 5 ls [])) : ∀ (v1 : Int64) (v4 : Int32) (σ : Sta) (H : Heap) (locs : List Loc) (ls : Array Slot), f_X10_isCommand_61 k5 v1 v4 σ = some o → va_P D vwCl (wd Y E σ 0 (LM ++ X)) H → va_S (AF E (LM ++ X).length s.heap.size) s.heap H locs → lv_has ls 5 [(0, .ref (E 0)), (1, .long v1), (4, .int v4)] → WI p l e rm_X10_isCommand s m args below meth c (LM ++ X) Y D E o H locs (F0 m 61 ls []) := by
  intro v1 v4 σ H locs ls h hP hS hl
  unfold f_X10_isCommand_61 at h
  obtain ⟨hC, hb, hml, hr, hlk, hD, hSW⟩ := id hF
  have hx := hC.1
  refine lv_iconst (v := 1) hx hb dX10_isCommand_61 (by decide) ?_
  refine lv_goto (tgt := 66) hx hb dX10_isCommand_62 (by decide) ?_
  exact t_X10_isCommand_66 hX  hF k5 hk5 v1 v4 1 σ _ _ _ h hP hS (lv_sub hl [0, 1, 2] rfl)

def f_X10_isCommand_65 (k5 : Int64 → Int32 → Int32 → Sta → Option (Int32 × Sta)) (v1 : Int64) (v4 : Int32) (σ : Sta) : Option (Int32 × Sta) :=
  f_X10_isCommand_66 k5 v1 v4 0 σ
set_option maxHeartbeats 4000000 in
set_option maxRecDepth 100000 in
theorem t_X10_isCommand_65 {l : Launch} {D : va_G} {Y : CYs} {E : Nat → Nat} {X : List Dsc} (hX : Lok (LM ++ X)) {p : Program} {e : Env} {s : State} {m : MethodId} {args : Array Value} {below : List Frame} {meth : Method} {c : Code} (hF : Fr p s m args meth c RX10 cX10_isCommand 5 (some .boolean) D Y E (LM ++ X)) {o : Int32 × Sta} (k5 : Int64 → Int32 → Int32 → Sta → Option (Int32 × Sta)) (hk5 : ∀ (v1 : Int64) (v3 : Int32) (v4 : Int32) (σ : Sta) (H : Heap) (locs : List Loc) (ls : Array Slot), k5 v1 v3 v4 σ = some o → va_P D vwCl (wd Y E σ 0 (LM ++ X)) H → va_S (AF E (LM ++ X).length s.heap.size) s.heap H locs → lv_has ls 5 [(0, .ref (E 0)), (1, .long v1), (3, .int v3), (4, .int v4)] → WI p l e rm_X10_isCommand s m args below meth c (LM ++ X) Y D E o H locs (F0 m 5 ls [])) : ∀ (v1 : Int64) (v4 : Int32) (σ : Sta) (H : Heap) (locs : List Loc) (ls : Array Slot), f_X10_isCommand_65 k5 v1 v4 σ = some o → va_P D vwCl (wd Y E σ 0 (LM ++ X)) H → va_S (AF E (LM ++ X).length s.heap.size) s.heap H locs → lv_has ls 5 [(0, .ref (E 0)), (1, .long v1), (4, .int v4)] → WI p l e rm_X10_isCommand s m args below meth c (LM ++ X) Y D E o H locs (F0 m 65 ls []) := by
  intro v1 v4 σ H locs ls h hP hS hl
  unfold f_X10_isCommand_65 at h
  obtain ⟨hC, hb, hml, hr, hlk, hD, hSW⟩ := id hF
  have hx := hC.1
  refine lv_iconst (v := 0) hx hb dX10_isCommand_65 (by decide) ?_
  exact t_X10_isCommand_66 hX  hF k5 hk5 v1 v4 0 σ _ _ _ h hP hS (lv_sub hl [0, 1, 2] rfl)

def f_X10_isCommand_5 : Nat → Int64 → Int32 → Int32 → Sta → Option (Int32 × Sta)
  | 0, _, _, _, _ => none
  | n + 1, v1, v3, v4, σ => if gI σ 4 ≤ v4 + 1 then
      if ¬ (v3 = 0 ∨ v3 = 1) then none else (
      some (v3, σ))
    else
      if v3 = 0 then
        if v4 < 0 ∨ 1501 ≤ (v4.toNatClampNeg) then none else (
        if gA σ 3 (v4.toNatClampNeg) = 6 then
          if v4 + 1 < 0 ∨ 1501 ≤ ((v4 + 1).toNatClampNeg) then none else (
          if gA σ 3 ((v4 + 1).toNatClampNeg) = 200 then
            if v4 + 1 < 0 ∨ 1501 ≤ ((v4 + 1).toNatClampNeg) then none else (
            if lg_cmp (gJ σ 5 ((v4 + 1).toNatClampNeg)) v1 = 0 then
              f_X10_isCommand_61 (f_X10_isCommand_5 n) v1 v4 σ
            else
              f_X10_isCommand_65 (f_X10_isCommand_5 n) v1 v4 σ)
          else
            f_X10_isCommand_65 (f_X10_isCommand_5 n) v1 v4 σ)
        else
          f_X10_isCommand_65 (f_X10_isCommand_5 n) v1 v4 σ)
      else
        f_X10_isCommand_61 (f_X10_isCommand_5 n) v1 v4 σ
set_option maxHeartbeats 4000000 in
set_option maxRecDepth 100000 in
theorem t_X10_isCommand_5 {l : Launch} {D : va_G} {Y : CYs} {E : Nat → Nat} {X : List Dsc} (hX : Lok (LM ++ X)) {p : Program} {e : Env} {s : State} {m : MethodId} {args : Array Value} {below : List Frame} {meth : Method} {c : Code} (hF : Fr p s m args meth c RX10 cX10_isCommand 5 (some .boolean) D Y E (LM ++ X)) {o : Int32 × Sta} : ∀ (n : Nat) (v1 : Int64) (v3 : Int32) (v4 : Int32) (σ : Sta) (H : Heap) (locs : List Loc) (ls : Array Slot), f_X10_isCommand_5 n v1 v3 v4 σ = some o → va_P D vwCl (wd Y E σ 0 (LM ++ X)) H → va_S (AF E (LM ++ X).length s.heap.size) s.heap H locs → lv_has ls 5 [(0, .ref (E 0)), (1, .long v1), (3, .int v3), (4, .int v4)] → WI p l e rm_X10_isCommand s m args below meth c (LM ++ X) Y D E o H locs (F0 m 5 ls []) := by
  intro n
  induction n with
  | zero =>
    intro v1 v3 v4 σ H locs ls h hP hS hl
    exact nomatch (show (none : Option (Int32 × Sta)) = some o from h)
  | succ n ih =>
    intro v1 v3 v4 σ H locs ls h hP hS hl
    rw [f_X10_isCommand_5] at h
    obtain ⟨hC, hb, hml, hr, hlk, hD, hSW⟩ := id hF
    have hx := hC.1
    refine lv_iload hx hb dX10_isCommand_5 (lv_at hl 3 rfl) ?_
    refine lv_iconst (v := 1) hx hb dX10_isCommand_7 (by decide) ?_
    refine lv_iadd hx hb dX10_isCommand_8 ?_
    refine lv_aload_n hx hb dX10_isCommand_9 rfl (lv_at hl 0 rfl) ?_
    refine gf_X10_166 hC hb hP dX10_isCommand_10 ?_
    refine lv_icmp_ge (tgt := 73) hx hb dX10_isCommand_13 (by decide) (fun c1 => ?_) (fun c1 => ?_)
    · have h := of_t h c1
      refine lv_iload_n hx hb dX10_isCommand_73 rfl (lv_at hl 2 rfl) ?_
      obtain ⟨g2, h⟩ := of_gd h
      exact x_zret hF hP hS (zb g2) h dX10_isCommand_74
    · have h := of_f h c1
      refine lv_iload_n hx hb dX10_isCommand_16 rfl (lv_at hl 2 rfl) ?_
      refine lv_if_ne (tgt := 61) hx hb dX10_isCommand_17 (by decide) (fun c3 => ?_) (fun c3 => ?_)
      · have h := of_f h c3
        exact t_X10_isCommand_61 hX  hF (f_X10_isCommand_5 n) ih v1 v4 σ _ _ _ h hP hS (lv_sub hl [0, 1, 3] rfl)
      · have h := of_t h c3
        refine lv_aload_n hx hb dX10_isCommand_20 rfl (lv_at hl 0 rfl) ?_
        refine gf_X10_17 hC hb hP dX10_isCommand_21 ?_
        refine lv_iload hx hb dX10_isCommand_24 (lv_at hl 3 rfl) ?_
        obtain ⟨g4, h⟩ := of_gd h
        refine x_iald hC hb hP (lm_3 X) g4 dX10_isCommand_26 ?_
        refine lv_bipush (v := 6) hx hb dX10_isCommand_27 (by decide) ?_
        refine lv_icmp_ne (tgt := 65) hx hb dX10_isCommand_29 (by decide) (fun c5 => ?_) (fun c5 => ?_)
        · have h := of_f h c5
          exact t_X10_isCommand_65 hX  hF (f_X10_isCommand_5 n) ih v1 v4 σ _ _ _ h hP hS (lv_sub hl [0, 1, 3] rfl)
        · have h := of_t h c5
          refine lv_aload_n hx hb dX10_isCommand_32 rfl (lv_at hl 0 rfl) ?_
          refine gf_X10_17 hC hb hP dX10_isCommand_33 ?_
          refine lv_iload hx hb dX10_isCommand_36 (lv_at hl 3 rfl) ?_
          refine lv_iconst (v := 1) hx hb dX10_isCommand_38 (by decide) ?_
          refine lv_iadd hx hb dX10_isCommand_39 ?_
          obtain ⟨g6, h⟩ := of_gd h
          refine x_iald hC hb hP (lm_3 X) g6 dX10_isCommand_40 ?_
          refine lv_sipush (v := 200) hx hb dX10_isCommand_41 (by decide) ?_
          refine lv_icmp_ne (tgt := 65) hx hb dX10_isCommand_44 (by decide) (fun c7 => ?_) (fun c7 => ?_)
          · have h := of_f h c7
            exact t_X10_isCommand_65 hX  hF (f_X10_isCommand_5 n) ih v1 v4 σ _ _ _ h hP hS (lv_sub hl [0, 1, 3] rfl)
          · have h := of_t h c7
            refine lv_aload_n hx hb dX10_isCommand_47 rfl (lv_at hl 0 rfl) ?_
            refine gf_X10_23 hC hb hP dX10_isCommand_48 ?_
            refine lv_iload hx hb dX10_isCommand_51 (lv_at hl 3 rfl) ?_
            refine lv_iconst (v := 1) hx hb dX10_isCommand_53 (by decide) ?_
            refine lv_iadd hx hb dX10_isCommand_54 ?_
            obtain ⟨g8, h⟩ := of_gd h
            refine x_lald hC hb hP (lm_5 X) g8 dX10_isCommand_55 ?_
            refine lv_lload_n hx hb dX10_isCommand_56 rfl (lv_at hl 1 rfl) ?_
            refine W.lcmp hx hb dX10_isCommand_57 ?_
            refine lv_if_ne (tgt := 65) hx hb dX10_isCommand_58 (by decide) (fun c9 => ?_) (fun c9 => ?_)
            · have h := of_f h c9
              exact t_X10_isCommand_65 hX  hF (f_X10_isCommand_5 n) ih v1 v4 σ _ _ _ h hP hS (lv_sub hl [0, 1, 3] rfl)
            · have h := of_t h c9
              exact t_X10_isCommand_61 hX  hF (f_X10_isCommand_5 n) ih v1 v4 σ _ _ _ h hP hS (lv_sub hl [0, 1, 3] rfl)

def f_X10_isCommand (a1 : Int64) (σ : Sta) : Option (Int32 × Sta) :=
  f_X10_isCommand_5 FU a1 0 0 σ
set_option maxHeartbeats 4000000 in
set_option maxRecDepth 100000 in
theorem c_X10_isCommand {l : Launch} {D : va_G} {Y : CYs} {E : Nat → Nat} {X : List Dsc} (hX : Lok (LM ++ X)) {a1 : Int64} {σ : Sta} {o : Int32 × Sta} (h : f_X10_isCommand a1 σ = some o) : MI l yX10_isCommand (Cond.code yX10_isCommand cX10_isCommand 5 (some .boolean) :: gW) rm_X10_isCommand (LM ++ X) Y D E [.ref (E 0), .long a1] σ o := by
  intro sz
  refine Met_of (Qc := fun sz => QI (LM ++ X) Y D E sz o) (by decide) (Nat.le_of_ble_eq_true rfl) (fun p e s m args below meth c hF hP ls hl => ?_) sz
  have hS : va_S (AF E (LM ++ X).length s.heap.size) s.heap s.heap [] := va_S.rf
  have hl : lv_has ls 5 [(0, .ref (E 0)), (1, .long a1)] := hl
  show WI p l e rm_X10_isCommand s m args below meth c (LM ++ X) Y D E o s.heap [] (F0 m 0 ls [])
  unfold f_X10_isCommand at h
  obtain ⟨hC, hb, hml, hr, hlk, hD, hSW⟩ := id hF
  have hx := hC.1
  refine lv_iconst (v := 0) hx hb dX10_isCommand_0 (by decide) ?_
  refine lv_istore_n (lv' := [(3, .int 0), (0, .ref (E 0)), (1, .long a1)]) hx hb dX10_isCommand_1 rfl hl (by decide) rfl (fun ls hl => ?_)
  refine lv_iconst (v := 0) hx hb dX10_isCommand_2 (by decide) ?_
  refine lv_istore (lv' := [(4, .int 0), (3, .int 0), (0, .ref (E 0)), (1, .long a1)]) hx hb dX10_isCommand_3 hl (by decide) rfl (fun ls hl => ?_)
  exact t_X10_isCommand_5 hX  hF FU a1 0 0 σ _ _ _ h hP hS (lv_sub hl [2, 3, 1, 0] rfl)

def f_X10_gain_67 (v1 : Int64) (σ : Sta) : Option ((Unit ⊕ (Int32 × Int32)) × Sta) :=
  bnw (f_X10_take_ 105 σ) (fun _ σ2 =>
  bnw (f_X10_whole σ2) (fun r4 σ5 =>
  if gI σ5 30 = 0 then
    some (.inl (), σ5)
  else
    if gI σ5 15 < 0 ∨ 3 ≤ ((gI σ5 15).toNatClampNeg) then none else (
    lt (sJ σ5 12 (vp_updL (gJ σ5 12) ((gI σ5 15).toNatClampNeg) v1)) (fun σ9 =>
    if gI σ9 15 < 0 ∨ 3 ≤ ((gI σ9 15).toNatClampNeg) then none else (
    lt (sA σ9 11 (upd (gA σ9 11) ((gI σ9 15).toNatClampNeg) r4)) (fun σ11 =>
    lt (sI σ11 15 ((gI σ11 15) + 1)) (fun σ12 =>
    some (.inl (), σ12))))))))
set_option maxHeartbeats 4000000 in
set_option maxRecDepth 100000 in
theorem t_X10_gain_67 {l : Launch} {D : va_G} {Y : CYs} {E : Nat → Nat} {X : List Dsc} (hX : Lok (LM ++ X)) {p : Program} {e : Env} {s : State} {m : MethodId} {args : Array Value} {below : List Frame} {meth : Method} {c : Code} (hF : Fr p s m args meth c RX10 cX10_gain 4 none D Y E (LM ++ X)) {o : (Unit ⊕ (Int32 × Int32)) × Sta} (ht : l.stackTraces = false) (htab : ∀ X u, o = (.inr X, u) → ∀ x ∈ c.exceptionTable.toList, False) : ∀ (v1 : Int64) (σ : Sta) (H : Heap) (locs : List Loc) (ls : Array Slot), f_X10_gain_67 v1 σ = some o → va_P D vwCl (wd Y E σ 0 (LM ++ X)) H → va_S (AF E (LM ++ X).length s.heap.size) s.heap H locs → lv_has ls 4 [(0, .ref (E 0)), (1, .long v1)] → W p l e (rmw 112 4224 o) s m args below meth c H locs 0 0 (QwV below args s (LM ++ X) Y D E o) (F0 m 67 ls []) := by
  intro v1 σ H locs ls h hP hS hl
  unfold f_X10_gain_67 at h
  obtain ⟨hC, hb, hml, hr, hlk, hD, hSW⟩ := id hF
  have hx := hC.1
  refine lv_aload_n hx hb dX10_gain_67 rfl (lv_at hl 0 rfl) ?_
  refine lv_bipush (v := 105) hx hb dX10_gain_68 (by decide) ?_
  rcases of_bnw h with ⟨r1, σ2, g3, h⟩ | ⟨Xx, σ2, g3, rfl⟩
  rotate_left
  · exact x_VTw (As := [.int 105]) (rest := []) hF hl hP hS (c_X10_take_ hX ht g3) (cw_X10_286 hC rfl rfl ⟨Nat.le_of_ble_eq_true rfl, Nat.le_of_ble_eq_true rfl⟩) (lm_0 X) rfl rfl rfl (Nat.le_of_ble_eq_true rfl) dX10_gain_70 ⟨Nat.le_refl _, Nat.le_refl _⟩ (htab _ _ rfl)
  refine x_VV (As := [.int 105]) (rest := []) hF hl hP hS (c_X10_take_ hX ht g3) (cw_X10_286 hC rfl rfl ⟨Nat.le_of_ble_eq_true rfl, Nat.le_of_ble_eq_true rfl⟩) (lm_0 X) rfl rfl rfl (Nat.le_of_ble_eq_true rfl) dX10_gain_70 ⟨Nat.zero_le _, Nat.zero_le _⟩ (fun H locs hP hS => ?_)
  refine lv_aload_n hx hb dX10_gain_73 rfl (lv_at hl 0 rfl) ?_
  rcases of_bnw h with ⟨r4, σ5, g6, h⟩ | ⟨Xx, σ5, g6, rfl⟩
  rotate_left
  · exact x_VTw (As := []) (rest := []) hF hl hP hS (c_X10_whole hX ht g6) (cw_X10_304 hC rfl rfl ⟨Nat.le_of_ble_eq_true rfl, Nat.le_of_ble_eq_true rfl⟩) (lm_0 X) rfl rfl rfl (Nat.le_of_ble_eq_true rfl) dX10_gain_74 ⟨Nat.le_refl _, Nat.le_refl _⟩ (htab _ _ rfl)
  refine x_VI (As := []) (rest := []) hF hl hP hS (c_X10_whole hX ht g6) (cw_X10_304 hC rfl rfl ⟨Nat.le_of_ble_eq_true rfl, Nat.le_of_ble_eq_true rfl⟩) (lm_0 X) rfl rfl rfl (Nat.le_of_ble_eq_true rfl) dX10_gain_74 ⟨Nat.zero_le _, Nat.zero_le _⟩ (fun H locs hP hS => ?_)
  refine lv_istore_n (lv' := [(3, .int r4), (0, .ref (E 0)), (1, .long v1)]) hx hb dX10_gain_77 rfl hl (by decide) rfl (fun ls hl => ?_)
  refine lv_aload_n hx hb dX10_gain_78 rfl (lv_at hl 1 rfl) ?_
  refine gf_X10_227 hC hb hP dX10_gain_79 ?_
  refine lv_if_ne (tgt := 86) hx hb dX10_gain_82 (by decide) (fun c7 => ?_) (fun c7 => ?_)
  · have h := of_f h c7
    refine lv_aload_n hx hb dX10_gain_86 rfl (lv_at hl 1 rfl) ?_
    refine gf_X10_44 hC hb hP dX10_gain_87 ?_
    refine lv_aload_n hx hb dX10_gain_90 rfl (lv_at hl 1 rfl) ?_
    refine gf_X10_201 hC hb hP dX10_gain_91 ?_
    refine lv_lload_n hx hb dX10_gain_94 rfl (lv_at hl 2 rfl) ?_
    obtain ⟨g8, h⟩ := of_gd h
    refine x_last hX hC hb hP hD hS (lm_12 X) g8 dX10_gain_95 (fun H locs σ9 eσ9 hP hS => ?_)
    have h := of_lt h eσ9
    refine lv_aload_n hx hb dX10_gain_96 rfl (lv_at hl 1 rfl) ?_
    refine gf_X10_41 hC hb hP dX10_gain_97 ?_
    refine lv_aload_n hx hb dX10_gain_100 rfl (lv_at hl 1 rfl) ?_
    refine gf_X10_201 hC hb hP dX10_gain_101 ?_
    refine lv_iload_n hx hb dX10_gain_104 rfl (lv_at hl 0 rfl) ?_
    obtain ⟨g10, h⟩ := of_gd h
    refine x_iast hX hC hb hP hD hS (lm_11 X) g10 dX10_gain_105 (fun H locs σ11 eσ11 hP hS => ?_)
    have h := of_lt h eσ11
    refine lv_aload_n hx hb dX10_gain_106 rfl (lv_at hl 1 rfl) ?_
    refine lv_dup hx hb dX10_gain_107 rfl ?_
    refine gf_X10_201 hC hb hP dX10_gain_108 ?_
    refine lv_iconst (v := 1) hx hb dX10_gain_111 (by decide) ?_
    refine lv_iadd hx hb dX10_gain_112 ?_
    refine pf_X10_201 hX hC hb hP hD hS dX10_gain_113 (fun H locs σ12 eσ12 hP hS => ?_)
    have h := of_lt h eσ12
    exact x_vretW hF hP hS h dX10_gain_116
  · have h := of_t h c7
    exact x_vretW hF hP hS h dX10_gain_85

def f_X10_gain (σ : Sta) : Option ((Unit ⊕ (Int32 × Int32)) × Sta) :=
  bnw (f_X10_newName σ) (fun r1 σ2 =>
  bnd (f_X10_is 4 σ2) (fun r4 σ5 =>
  if r4 = 0 then
    f_X10_gain_67 0 σ5
  else
    bnw (f_X10_take σ5) (fun _ σ9 =>
    bnd (f_X10_is 200 σ9) (fun r11 σ12 =>
    if r11 = 0 then
      bnr (f_X10_wrong σ12) (fun X27 => some (.inr X27, σ12))
    else
      if gI σ12 29 < 0 ∨ 1501 ≤ ((gI σ12 29).toNatClampNeg) then none else (
      lt (gJ σ12 5 ((gI σ12 29).toNatClampNeg)) (fun x16 =>
      bnd (f_X10_isCommand x16 σ12) (fun r17 σ18 =>
      if gI σ18 29 < 0 ∨ 1501 ≤ ((gI σ18 29).toNatClampNeg) then none else (
      bnw (f_X10_must r17 2 (gA σ18 4 ((gI σ18 29).toNatClampNeg)) σ18) (fun _ σ22 =>
      bnw (f_X10_take σ22) (fun _ σ25 =>
      f_X10_gain_67 x16 σ25))))))))))
set_option maxHeartbeats 4000000 in
set_option maxRecDepth 100000 in
theorem c_X10_gain {l : Launch} {D : va_G} {Y : CYs} {E : Nat → Nat} {X : List Dsc} (hX : Lok (LM ++ X)) (ht : l.stackTraces = false) {σ : Sta} {o : (Unit ⊕ (Int32 × Int32)) × Sta} (h : f_X10_gain σ = some o) : MWV l yX10_gain (Cond.code yX10_gain cX10_gain 4 none :: gW) 112 4224 (LM ++ X) Y D E [.ref (E 0)] σ o := by
  refine Met_ofWV (by decide) (Nat.le_of_ble_eq_true rfl) (fun p e s m args below meth c hF hP htab ls hl => ?_)
  have hS : va_S (AF E (LM ++ X).length s.heap.size) s.heap s.heap [] := va_S.rf
  have hl : lv_has ls 4 [(0, .ref (E 0))] := hl
  show W p l e (rmw 112 4224 o) s m args below meth c s.heap [] 0 0 (QwV below args s (LM ++ X) Y D E o) (F0 m 0 ls [])
  unfold f_X10_gain at h
  obtain ⟨hC, hb, hml, hr, hlk, hD, hSW⟩ := id hF
  have hx := hC.1
  refine lv_aload_n hx hb dX10_gain_0 rfl (lv_at hl 0 rfl) ?_
  rcases of_bnw h with ⟨r1, σ2, g3, h⟩ | ⟨Xx, σ2, g3, rfl⟩
  rotate_left
  · exact x_VTw (As := []) (rest := []) hF hl hP hS (c_X10_newName hX ht g3) (cw_X10_307 hC rfl rfl ⟨Nat.le_of_ble_eq_true rfl, Nat.le_of_ble_eq_true rfl⟩) (lm_0 X) rfl rfl rfl (Nat.le_of_ble_eq_true rfl) dX10_gain_1 ⟨Nat.le_refl _, Nat.le_refl _⟩ (htab _ _ rfl)
  refine x_VL (As := []) (rest := []) hF hl hP hS (c_X10_newName hX ht g3) (cw_X10_307 hC rfl rfl ⟨Nat.le_of_ble_eq_true rfl, Nat.le_of_ble_eq_true rfl⟩) (lm_0 X) rfl rfl rfl (Nat.le_of_ble_eq_true rfl) dX10_gain_1 ⟨Nat.zero_le _, Nat.zero_le _⟩ (fun H locs hP hS => ?_)
  refine lv_pop2_2 hx hb dX10_gain_4 rfl ?_
  refine lv_lconst (v := 0) hx hb dX10_gain_5 (by decide) ?_
  refine lv_lstore_n (lv' := [(1, .long 0), (0, .ref (E 0))]) hx hb dX10_gain_6 rfl hl (by decide) rfl (fun ls hl => ?_)
  refine lv_aload_n hx hb dX10_gain_7 rfl (lv_at hl 1 rfl) ?_
  refine lv_iconst (v := 4) hx hb dX10_gain_8 (by decide) ?_
  obtain ⟨r4, σ5, g6, h⟩ := of_bnd h
  refine x_VI (As := [.int 4]) (rest := []) hF hl hP hS (c_X10_is hX g6) (cw_X10_238 hC rfl rfl ⟨Nat.le_of_ble_eq_true rfl, Nat.le_of_ble_eq_true rfl⟩) (lm_0 X) rfl rfl rfl (Nat.le_of_ble_eq_true rfl) dX10_gain_9 ⟨Nat.zero_le _, Nat.zero_le _⟩ (fun H locs hP hS => ?_)
  refine lv_if_eq (tgt := 67) hx hb dX10_gain_12 (by decide) (fun c7 => ?_) (fun c7 => ?_)
  · have h := of_t h c7
    exact t_X10_gain_67 hX  hF ht htab 0 σ5 _ _ _ h hP hS (lv_sub hl [1, 0] rfl)
  · have h := of_f h c7
    refine lv_aload_n hx hb dX10_gain_15 rfl (lv_at hl 1 rfl) ?_
    rcases of_bnw h with ⟨r8, σ9, g10, h⟩ | ⟨Xx, σ9, g10, rfl⟩
    rotate_left
    · exact x_VTw (As := []) (rest := []) hF hl hP hS (c_X10_take hX ht g10) (cw_X10_241 hC rfl rfl ⟨Nat.le_of_ble_eq_true rfl, Nat.le_of_ble_eq_true rfl⟩) (lm_0 X) rfl rfl rfl (Nat.le_of_ble_eq_true rfl) dX10_gain_16 ⟨Nat.le_refl _, Nat.le_refl _⟩ (htab _ _ rfl)
    refine x_VV (As := []) (rest := []) hF hl hP hS (c_X10_take hX ht g10) (cw_X10_241 hC rfl rfl ⟨Nat.le_of_ble_eq_true rfl, Nat.le_of_ble_eq_true rfl⟩) (lm_0 X) rfl rfl rfl (Nat.le_of_ble_eq_true rfl) dX10_gain_16 ⟨Nat.zero_le _, Nat.zero_le _⟩ (fun H locs hP hS => ?_)
    refine lv_aload_n hx hb dX10_gain_19 rfl (lv_at hl 1 rfl) ?_
    refine lv_sipush (v := 200) hx hb dX10_gain_20 (by decide) ?_
    obtain ⟨r11, σ12, g13, h⟩ := of_bnd h
    refine x_VI (As := [.int 200]) (rest := []) hF hl hP hS (c_X10_is hX g13) (cw_X10_238 hC rfl rfl ⟨Nat.le_of_ble_eq_true rfl, Nat.le_of_ble_eq_true rfl⟩) (lm_0 X) rfl rfl rfl (Nat.le_of_ble_eq_true rfl) dX10_gain_23 ⟨Nat.zero_le _, Nat.zero_le _⟩ (fun H locs hP hS => ?_)
    refine lv_if_ne (tgt := 34) hx hb dX10_gain_26 (by decide) (fun c14 => ?_) (fun c14 => ?_)
    · have h := of_f h c14
      refine lv_aload_n hx hb dX10_gain_34 rfl (lv_at hl 1 rfl) ?_
      refine gf_X10_23 hC hb hP dX10_gain_35 ?_
      refine lv_aload_n hx hb dX10_gain_38 rfl (lv_at hl 1 rfl) ?_
      refine gf_X10_219 hC hb hP dX10_gain_39 ?_
      obtain ⟨g15, h⟩ := of_gd h
      refine x_lald hC hb hP (lm_5 X) g15 dX10_gain_42 ?_
      refine lv_topl (fun x16 ex16 => ?_)
      have h := of_lt h ex16
      refine lv_lstore_n (lv' := [(1, .long x16), (0, .ref (E 0))]) hx hb dX10_gain_43 rfl hl (by decide) rfl (fun ls hl => ?_)
      refine lv_aload_n hx hb dX10_gain_44 rfl (lv_at hl 1 rfl) ?_
      refine lv_aload_n hx hb dX10_gain_45 rfl (lv_at hl 1 rfl) ?_
      refine lv_lload_n hx hb dX10_gain_46 rfl (lv_at hl 0 rfl) ?_
      obtain ⟨r17, σ18, g19, h⟩ := of_bnd h
      refine x_VI (As := [.long x16]) (rest := [.ref (E 0)]) hF hl hP hS (c_X10_isCommand hX g19) (cw_X10_318 hC rfl rfl ⟨Nat.le_of_ble_eq_true rfl, Nat.le_of_ble_eq_true rfl⟩) (lm_0 X) rfl rfl rfl (Nat.le_of_ble_eq_true rfl) dX10_gain_47 ⟨Nat.zero_le _, Nat.zero_le _⟩ (fun H locs hP hS => ?_)
      refine lv_iconst (v := 2) hx hb dX10_gain_50 (by decide) ?_
      refine lv_aload_n hx hb dX10_gain_51 rfl (lv_at hl 1 rfl) ?_
      refine gf_X10_20 hC hb hP dX10_gain_52 ?_
      refine lv_aload_n hx hb dX10_gain_55 rfl (lv_at hl 1 rfl) ?_
      refine gf_X10_219 hC hb hP dX10_gain_56 ?_
      obtain ⟨g20, h⟩ := of_gd h
      refine x_iald hC hb hP (lm_4 X) g20 dX10_gain_59 ?_
      rcases of_bnw h with ⟨r21, σ22, g23, h⟩ | ⟨Xx, σ22, g23, rfl⟩
      rotate_left
      · exact x_VTw (As := [.int r17, .int 2, .int (gA σ18 4 ((gI σ18 29).toNatClampNeg))]) (rest := []) hF hl hP hS (c_X10_must hX ht g23) (cw_X10_288 hC rfl rfl ⟨Nat.le_of_ble_eq_true rfl, Nat.le_of_ble_eq_true rfl⟩) (lm_0 X) rfl rfl rfl (Nat.le_of_ble_eq_true rfl) dX10_gain_60 ⟨Nat.le_refl _, Nat.le_refl _⟩ (htab _ _ rfl)
      refine x_VV (As := [.int r17, .int 2, .int (gA σ18 4 ((gI σ18 29).toNatClampNeg))]) (rest := []) hF hl hP hS (c_X10_must hX ht g23) (cw_X10_288 hC rfl rfl ⟨Nat.le_of_ble_eq_true rfl, Nat.le_of_ble_eq_true rfl⟩) (lm_0 X) rfl rfl rfl (Nat.le_of_ble_eq_true rfl) dX10_gain_60 ⟨Nat.zero_le _, Nat.zero_le _⟩ (fun H locs hP hS => ?_)
      refine lv_aload_n hx hb dX10_gain_63 rfl (lv_at hl 1 rfl) ?_
      rcases of_bnw h with ⟨r24, σ25, g26, h⟩ | ⟨Xx, σ25, g26, rfl⟩
      rotate_left
      · exact x_VTw (As := []) (rest := []) hF hl hP hS (c_X10_take hX ht g26) (cw_X10_241 hC rfl rfl ⟨Nat.le_of_ble_eq_true rfl, Nat.le_of_ble_eq_true rfl⟩) (lm_0 X) rfl rfl rfl (Nat.le_of_ble_eq_true rfl) dX10_gain_64 ⟨Nat.le_refl _, Nat.le_refl _⟩ (htab _ _ rfl)
      refine x_VV (As := []) (rest := []) hF hl hP hS (c_X10_take hX ht g26) (cw_X10_241 hC rfl rfl ⟨Nat.le_of_ble_eq_true rfl, Nat.le_of_ble_eq_true rfl⟩) (lm_0 X) rfl rfl rfl (Nat.le_of_ble_eq_true rfl) dX10_gain_64 ⟨Nat.zero_le _, Nat.zero_le _⟩ (fun H locs hP hS => ?_)
      exact t_X10_gain_67 hX  hF ht htab x16 σ25 _ _ _ h hP hS (lv_sub hl [1, 0] rfl)
    · have h := of_t h c14
      refine lv_aload_n hx hb dX10_gain_29 rfl (lv_at hl 1 rfl) ?_
      obtain ⟨X27, g28, h⟩ := of_bnr h
      cases h
      refine x_VR (As := []) (rest := []) hF hl hP hS (c_X10_wrong hX ht g28) (cw_X10_234 hC rfl rfl ⟨Nat.le_of_ble_eq_true rfl, Nat.le_of_ble_eq_true rfl⟩) (lm_0 X) rfl rfl rfl (Nat.le_of_ble_eq_true rfl) dX10_gain_30 ⟨Nat.le_of_ble_eq_true rfl, Nat.le_of_ble_eq_true rfl⟩ (fun wa29 H locs hP hS hWwa29 => ?_)
      exact x_throwW hF hP hS hWwa29 (htab _ _ rfl) dX10_gain_33

def f_X10_setOne_88 (σ : Sta) : Option ((Unit ⊕ (Int32 × Int32)) × Sta) :=
  some (.inl (), σ)
set_option maxHeartbeats 4000000 in
set_option maxRecDepth 100000 in
theorem t_X10_setOne_88 {l : Launch} {D : va_G} {Y : CYs} {E : Nat → Nat} {X : List Dsc} (hX : Lok (LM ++ X)) {p : Program} {e : Env} {s : State} {m : MethodId} {args : Array Value} {below : List Frame} {meth : Method} {c : Code} (hF : Fr p s m args meth c RX10 cX10_setOne 4 none D Y E (LM ++ X)) {o : (Unit ⊕ (Int32 × Int32)) × Sta} (ht : l.stackTraces = false) (htab : ∀ X u, o = (.inr X, u) → ∀ x ∈ c.exceptionTable.toList, False) : ∀ (σ : Sta) (H : Heap) (locs : List Loc) (ls : Array Slot), f_X10_setOne_88 σ = some o → va_P D vwCl (wd Y E σ 0 (LM ++ X)) H → va_S (AF E (LM ++ X).length s.heap.size) s.heap H locs → lv_has ls 4 [] → W p l e (rmw 112 4224 o) s m args below meth c H locs 0 0 (QwV below args s (LM ++ X) Y D E o) (F0 m 88 ls []) := by
  intro σ H locs ls h hP hS hl
  unfold f_X10_setOne_88 at h
  obtain ⟨hC, hb, hml, hr, hlk, hD, hSW⟩ := id hF
  have hx := hC.1
  exact x_vretW hF hP hS h dX10_setOne_88

def f_X10_setOne_41 (v1 : Int32) (v2 : Int32) (s0 : Int32) (σ : Sta) : Option ((Unit ⊕ (Int32 × Int32)) × Sta) :=
  if gI σ 29 < 0 ∨ 1501 ≤ ((gI σ 29).toNatClampNeg) then none else (
  bnw (f_X10_must s0 3 (gA σ 4 ((gI σ 29).toNatClampNeg)) σ) (fun _ σ3 =>
  bnw (f_X10_take σ3) (fun _ σ6 =>
  bnw (f_X10_take_ 105 σ6) (fun _ σ9 =>
  bnw (f_X10_whole σ9) (fun r11 σ12 =>
  if gI σ12 30 = 0 then
    f_X10_setOne_88 σ12
  else
    if (v1 * 6) + v2 < 0 ∨ 384 ≤ (((v1 * 6) + v2).toNatClampNeg) then none else (
    lt (sA σ12 18 (upd (gA σ12 18) (((v1 * 6) + v2).toNatClampNeg) r11)) (fun σ16 =>
    f_X10_setOne_88 σ16)))))))
set_option maxHeartbeats 4000000 in
set_option maxRecDepth 100000 in
theorem t_X10_setOne_41 {l : Launch} {D : va_G} {Y : CYs} {E : Nat → Nat} {X : List Dsc} (hX : Lok (LM ++ X)) {p : Program} {e : Env} {s : State} {m : MethodId} {args : Array Value} {below : List Frame} {meth : Method} {c : Code} (hF : Fr p s m args meth c RX10 cX10_setOne 4 none D Y E (LM ++ X)) {o : (Unit ⊕ (Int32 × Int32)) × Sta} (ht : l.stackTraces = false) (htab : ∀ X u, o = (.inr X, u) → ∀ x ∈ c.exceptionTable.toList, False) : ∀ (v1 : Int32) (v2 : Int32) (s0 : Int32) (σ : Sta) (H : Heap) (locs : List Loc) (ls : Array Slot), f_X10_setOne_41 v1 v2 s0 σ = some o → va_P D vwCl (wd Y E σ 0 (LM ++ X)) H → va_S (AF E (LM ++ X).length s.heap.size) s.heap H locs → lv_has ls 4 [(0, .ref (E 0)), (1, .int v1), (2, .int v2)] → W p l e (rmw 112 4224 o) s m args below meth c H locs 0 0 (QwV below args s (LM ++ X) Y D E o) (F0 m 41 ls [.int s0, .ref (E 0)]) := by
  intro v1 v2 s0 σ H locs ls h hP hS hl
  unfold f_X10_setOne_41 at h
  obtain ⟨hC, hb, hml, hr, hlk, hD, hSW⟩ := id hF
  have hx := hC.1
  refine lv_iconst (v := 3) hx hb dX10_setOne_41 (by decide) ?_
  refine lv_aload_n hx hb dX10_setOne_42 rfl (lv_at hl 0 rfl) ?_
  refine gf_X10_20 hC hb hP dX10_setOne_43 ?_
  refine lv_aload_n hx hb dX10_setOne_46 rfl (lv_at hl 0 rfl) ?_
  refine gf_X10_219 hC hb hP dX10_setOne_47 ?_
  obtain ⟨g1, h⟩ := of_gd h
  refine x_iald hC hb hP (lm_4 X) g1 dX10_setOne_50 ?_
  rcases of_bnw h with ⟨r2, σ3, g4, h⟩ | ⟨Xx, σ3, g4, rfl⟩
  rotate_left
  · exact x_VTw (As := [.int s0, .int 3, .int (gA σ 4 ((gI σ 29).toNatClampNeg))]) (rest := []) hF hl hP hS (c_X10_must hX ht g4) (cw_X10_288 hC rfl rfl ⟨Nat.le_of_ble_eq_true rfl, Nat.le_of_ble_eq_true rfl⟩) (lm_0 X) rfl rfl rfl (Nat.le_of_ble_eq_true rfl) dX10_setOne_51 ⟨Nat.le_refl _, Nat.le_refl _⟩ (htab _ _ rfl)
  refine x_VV (As := [.int s0, .int 3, .int (gA σ 4 ((gI σ 29).toNatClampNeg))]) (rest := []) hF hl hP hS (c_X10_must hX ht g4) (cw_X10_288 hC rfl rfl ⟨Nat.le_of_ble_eq_true rfl, Nat.le_of_ble_eq_true rfl⟩) (lm_0 X) rfl rfl rfl (Nat.le_of_ble_eq_true rfl) dX10_setOne_51 ⟨Nat.zero_le _, Nat.zero_le _⟩ (fun H locs hP hS => ?_)
  refine lv_aload_n hx hb dX10_setOne_54 rfl (lv_at hl 0 rfl) ?_
  rcases of_bnw h with ⟨r5, σ6, g7, h⟩ | ⟨Xx, σ6, g7, rfl⟩
  rotate_left
  · exact x_VTw (As := []) (rest := []) hF hl hP hS (c_X10_take hX ht g7) (cw_X10_241 hC rfl rfl ⟨Nat.le_of_ble_eq_true rfl, Nat.le_of_ble_eq_true rfl⟩) (lm_0 X) rfl rfl rfl (Nat.le_of_ble_eq_true rfl) dX10_setOne_55 ⟨Nat.le_refl _, Nat.le_refl _⟩ (htab _ _ rfl)
  refine x_VV (As := []) (rest := []) hF hl hP hS (c_X10_take hX ht g7) (cw_X10_241 hC rfl rfl ⟨Nat.le_of_ble_eq_true rfl, Nat.le_of_ble_eq_true rfl⟩) (lm_0 X) rfl rfl rfl (Nat.le_of_ble_eq_true rfl) dX10_setOne_55 ⟨Nat.zero_le _, Nat.zero_le _⟩ (fun H locs hP hS => ?_)
  refine lv_aload_n hx hb dX10_setOne_58 rfl (lv_at hl 0 rfl) ?_
  refine lv_bipush (v := 105) hx hb dX10_setOne_59 (by decide) ?_
  rcases of_bnw h with ⟨r8, σ9, g10, h⟩ | ⟨Xx, σ9, g10, rfl⟩
  rotate_left
  · exact x_VTw (As := [.int 105]) (rest := []) hF hl hP hS (c_X10_take_ hX ht g10) (cw_X10_286 hC rfl rfl ⟨Nat.le_of_ble_eq_true rfl, Nat.le_of_ble_eq_true rfl⟩) (lm_0 X) rfl rfl rfl (Nat.le_of_ble_eq_true rfl) dX10_setOne_61 ⟨Nat.le_refl _, Nat.le_refl _⟩ (htab _ _ rfl)
  refine x_VV (As := [.int 105]) (rest := []) hF hl hP hS (c_X10_take_ hX ht g10) (cw_X10_286 hC rfl rfl ⟨Nat.le_of_ble_eq_true rfl, Nat.le_of_ble_eq_true rfl⟩) (lm_0 X) rfl rfl rfl (Nat.le_of_ble_eq_true rfl) dX10_setOne_61 ⟨Nat.zero_le _, Nat.zero_le _⟩ (fun H locs hP hS => ?_)
  refine lv_aload_n hx hb dX10_setOne_64 rfl (lv_at hl 0 rfl) ?_
  rcases of_bnw h with ⟨r11, σ12, g13, h⟩ | ⟨Xx, σ12, g13, rfl⟩
  rotate_left
  · exact x_VTw (As := []) (rest := []) hF hl hP hS (c_X10_whole hX ht g13) (cw_X10_304 hC rfl rfl ⟨Nat.le_of_ble_eq_true rfl, Nat.le_of_ble_eq_true rfl⟩) (lm_0 X) rfl rfl rfl (Nat.le_of_ble_eq_true rfl) dX10_setOne_65 ⟨Nat.le_refl _, Nat.le_refl _⟩ (htab _ _ rfl)
  refine x_VI (As := []) (rest := []) hF hl hP hS (c_X10_whole hX ht g13) (cw_X10_304 hC rfl rfl ⟨Nat.le_of_ble_eq_true rfl, Nat.le_of_ble_eq_true rfl⟩) (lm_0 X) rfl rfl rfl (Nat.le_of_ble_eq_true rfl) dX10_setOne_65 ⟨Nat.zero_le _, Nat.zero_le _⟩ (fun H locs hP hS => ?_)
  refine lv_istore_n (lv' := [(3, .int r11), (0, .ref (E 0)), (1, .int v1), (2, .int v2)]) hx hb dX10_setOne_68 rfl hl (by decide) rfl (fun ls hl => ?_)
  refine lv_aload_n hx hb dX10_setOne_69 rfl (lv_at hl 1 rfl) ?_
  refine gf_X10_227 hC hb hP dX10_setOne_70 ?_
  refine lv_if_eq (tgt := 88) hx hb dX10_setOne_73 (by decide) (fun c14 => ?_) (fun c14 => ?_)
  · have h := of_t h c14
    exact t_X10_setOne_88 hX  hF ht htab σ12 _ _ _ h hP hS (lv_sub hl [] rfl)
  · have h := of_f h c14
    refine lv_aload_n hx hb dX10_setOne_76 rfl (lv_at hl 1 rfl) ?_
    refine gf_X10_62 hC hb hP dX10_setOne_77 ?_
    refine lv_iload_n hx hb dX10_setOne_80 rfl (lv_at hl 2 rfl) ?_
    refine lv_bipush (v := 6) hx hb dX10_setOne_81 (by decide) ?_
    refine lv_imul hx hb dX10_setOne_83 ?_
    refine lv_iload_n hx hb dX10_setOne_84 rfl (lv_at hl 3 rfl) ?_
    refine lv_iadd hx hb dX10_setOne_85 ?_
    refine lv_iload_n hx hb dX10_setOne_86 rfl (lv_at hl 0 rfl) ?_
    obtain ⟨g15, h⟩ := of_gd h
    refine x_iast hX hC hb hP hD hS (lm_18 X) g15 dX10_setOne_87 (fun H locs σ16 eσ16 hP hS => ?_)
    have h := of_lt h eσ16
    exact t_X10_setOne_88 hX  hF ht htab σ16 _ _ _ h hP hS (lv_sub hl [] rfl)

def f_X10_setOne (a1 : Int32) (σ : Sta) : Option ((Unit ⊕ (Int32 × Int32)) × Sta) :=
  bnd (f_X10_is 200 σ) (fun r1 σ2 =>
  if r1 = 0 then
    bnr (f_X10_wrong σ2) (fun X10 => some (.inr X10, σ2))
  else
    bnw (f_X10_variableHere σ2) (fun r5 σ6 =>
    if (a1 * 6) + r5 < 0 ∨ 384 ≤ (((a1 * 6) + r5).toNatClampNeg) then none else (
    if gA σ6 18 (((a1 * 6) + r5).toNatClampNeg) = -1 then
      f_X10_setOne_41 a1 r5 1 σ6
    else
      f_X10_setOne_41 a1 r5 0 σ6)))
set_option maxHeartbeats 4000000 in
set_option maxRecDepth 100000 in
theorem c_X10_setOne {l : Launch} {D : va_G} {Y : CYs} {E : Nat → Nat} {X : List Dsc} (hX : Lok (LM ++ X)) {a1 : Int32} (ht : l.stackTraces = false) {σ : Sta} {o : (Unit ⊕ (Int32 × Int32)) × Sta} (h : f_X10_setOne a1 σ = some o) : MWV l yX10_setOne (Cond.code yX10_setOne cX10_setOne 4 none :: gW) 112 4224 (LM ++ X) Y D E [.ref (E 0), .int a1] σ o := by
  refine Met_ofWV (by decide) (Nat.le_of_ble_eq_true rfl) (fun p e s m args below meth c hF hP htab ls hl => ?_)
  have hS : va_S (AF E (LM ++ X).length s.heap.size) s.heap s.heap [] := va_S.rf
  have hl : lv_has ls 4 [(0, .ref (E 0)), (1, .int a1)] := hl
  show W p l e (rmw 112 4224 o) s m args below meth c s.heap [] 0 0 (QwV below args s (LM ++ X) Y D E o) (F0 m 0 ls [])
  unfold f_X10_setOne at h
  obtain ⟨hC, hb, hml, hr, hlk, hD, hSW⟩ := id hF
  have hx := hC.1
  refine lv_aload_n hx hb dX10_setOne_0 rfl (lv_at hl 0 rfl) ?_
  refine lv_sipush (v := 200) hx hb dX10_setOne_1 (by decide) ?_
  obtain ⟨r1, σ2, g3, h⟩ := of_bnd h
  refine x_VI (As := [.int 200]) (rest := []) hF hl hP hS (c_X10_is hX g3) (cw_X10_238 hC rfl rfl ⟨Nat.le_of_ble_eq_true rfl, Nat.le_of_ble_eq_true rfl⟩) (lm_0 X) rfl rfl rfl (Nat.le_of_ble_eq_true rfl) dX10_setOne_4 ⟨Nat.zero_le _, Nat.zero_le _⟩ (fun H locs hP hS => ?_)
  refine lv_if_ne (tgt := 15) hx hb dX10_setOne_7 (by decide) (fun c4 => ?_) (fun c4 => ?_)
  · have h := of_f h c4
    refine lv_aload_n hx hb dX10_setOne_15 rfl (lv_at hl 0 rfl) ?_
    rcases of_bnw h with ⟨r5, σ6, g7, h⟩ | ⟨Xx, σ6, g7, rfl⟩
    rotate_left
    · exact x_VTw (As := []) (rest := []) hF hl hP hS (c_X10_variableHere hX ht g7) (cw_X10_273 hC rfl rfl ⟨Nat.le_of_ble_eq_true rfl, Nat.le_of_ble_eq_true rfl⟩) (lm_0 X) rfl rfl rfl (Nat.le_of_ble_eq_true rfl) dX10_setOne_16 ⟨Nat.le_refl _, Nat.le_refl _⟩ (htab _ _ rfl)
    refine x_VI (As := []) (rest := []) hF hl hP hS (c_X10_variableHere hX ht g7) (cw_X10_273 hC rfl rfl ⟨Nat.le_of_ble_eq_true rfl, Nat.le_of_ble_eq_true rfl⟩) (lm_0 X) rfl rfl rfl (Nat.le_of_ble_eq_true rfl) dX10_setOne_16 ⟨Nat.zero_le _, Nat.zero_le _⟩ (fun H locs hP hS => ?_)
    refine lv_istore_n (lv' := [(2, .int r5), (0, .ref (E 0)), (1, .int a1)]) hx hb dX10_setOne_19 rfl hl (by decide) rfl (fun ls hl => ?_)
    refine lv_aload_n hx hb dX10_setOne_20 rfl (lv_at hl 1 rfl) ?_
    refine lv_aload_n hx hb dX10_setOne_21 rfl (lv_at hl 1 rfl) ?_
    refine gf_X10_62 hC hb hP dX10_setOne_22 ?_
    refine lv_iload_n hx hb dX10_setOne_25 rfl (lv_at hl 2 rfl) ?_
    refine lv_bipush (v := 6) hx hb dX10_setOne_26 (by decide) ?_
    refine lv_imul hx hb dX10_setOne_28 ?_
    refine lv_iload_n hx hb dX10_setOne_29 rfl (lv_at hl 0 rfl) ?_
    refine lv_iadd hx hb dX10_setOne_30 ?_
    obtain ⟨g8, h⟩ := of_gd h
    refine x_iald hC hb hP (lm_18 X) g8 dX10_setOne_31 ?_
    refine lv_iconst (v := -1) hx hb dX10_setOne_32 (by decide) ?_
    refine lv_icmp_ne (tgt := 40) hx hb dX10_setOne_33 (by decide) (fun c9 => ?_) (fun c9 => ?_)
    · have h := of_f h c9
      refine lv_iconst (v := 0) hx hb dX10_setOne_40 (by decide) ?_
      exact t_X10_setOne_41 hX  hF ht htab a1 r5 0 σ6 _ _ _ h hP hS (lv_sub hl [1, 2, 0] rfl)
    · have h := of_t h c9
      refine lv_iconst (v := 1) hx hb dX10_setOne_36 (by decide) ?_
      refine lv_goto (tgt := 41) hx hb dX10_setOne_37 (by decide) ?_
      exact t_X10_setOne_41 hX  hF ht htab a1 r5 1 σ6 _ _ _ h hP hS (lv_sub hl [1, 2, 0] rfl)
  · have h := of_t h c4
    refine lv_aload_n hx hb dX10_setOne_10 rfl (lv_at hl 0 rfl) ?_
    obtain ⟨X10, g11, h⟩ := of_bnr h
    cases h
    refine x_VR (As := []) (rest := []) hF hl hP hS (c_X10_wrong hX ht g11) (cw_X10_234 hC rfl rfl ⟨Nat.le_of_ble_eq_true rfl, Nat.le_of_ble_eq_true rfl⟩) (lm_0 X) rfl rfl rfl (Nat.le_of_ble_eq_true rfl) dX10_setOne_11 ⟨Nat.le_of_ble_eq_true rfl, Nat.le_of_ble_eq_true rfl⟩ (fun wa12 H locs hP hS hWwa12 => ?_)
    exact x_throwW hF hP hS hWwa12 (htab _ _ rfl) dX10_setOne_14
