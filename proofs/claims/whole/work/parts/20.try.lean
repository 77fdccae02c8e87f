theorem gf_X1_9 {p : Program} {l : Launch} {e : Env} {R : Room} {s : State} {m : MethodId} {args : Array Value} {below : List Frame} {meth : Method} {c : Code} {H : Heap} {locs : List Loc} {cells slots : Nat} {Q : State → Prop} {D : va_G} {Y : CYs} {E : Nat → Nat} {σ : Sta} {cc : ByteArray} {pc : Nat} {ls : Array Slot} {rest : List Value} (hC : Ctx p s m args RX1 D Y) (hb : c.code = cc) (hP : va_P D vwCl (wd Y E σ 0 LC) H) (hdg : decode cc pc = .ok (.getfield 9, 3)) (kk : W p l e R s m args below meth c H locs cells slots Q (F0 m (pc + 3) ls (.ref (E 1) :: rest))) : W p l e R s m args below meth c H locs cells slots Q (F0 m pc ls (.ref (E 4) :: rest)) :=
  x_getR hC hb hP inGX1 lc_4 rfl 0 (by decide) rfl (gw_t (tb1 (List.mem_of_getElem? (i := 173) rfl)) rfl) rfl hdg kk
theorem gf_X1_199 {p : Program} {l : Launch} {e : Env} {R : Room} {s : State} {m : MethodId} {args : Array Value} {below : List Frame} {meth : Method} {c : Code} {H : Heap} {locs : List Loc} {cells slots : Nat} {Q : State → Prop} {D : va_G} {Y : CYs} {E : Nat → Nat} {σ : Sta} {cc : ByteArray} {pc : Nat} {ls : Array Slot} {rest : List Value} (hC : Ctx p s m args RX1 D Y) (hb : c.code = cc) (hP : va_P D vwCl (wd Y E σ 0 LC) H) (hdg : decode cc pc = .ok (.getfield 199, 3)) (kk : W p l e R s m args below meth c H locs cells slots Q (F0 m (pc + 3) ls (.ref (E 11) :: rest))) : W p l e R s m args below meth c H locs cells slots Q (F0 m pc ls (.ref (E 1) :: rest)) :=
  x_getRN hC hb hP inGX7 lc_1 rfl 0 (by decide) rfl (List.mem_of_getElem? (i := 1) rfl) rfl hdg kk
theorem gf_X1_43 {p : Program} {l : Launch} {e : Env} {R : Room} {s : State} {m : MethodId} {args : Array Value} {below : List Frame} {meth : Method} {c : Code} {H : Heap} {locs : List Loc} {cells slots : Nat} {Q : State → Prop} {D : va_G} {Y : CYs} {E : Nat → Nat} {σ : Sta} {cc : ByteArray} {pc : Nat} {ls : Array Slot} {rest : List Value} (hC : Ctx p s m args RX1 D Y) (hb : c.code = cc) (hP : va_P D vwCl (wd Y E σ 0 LC) H) (hdg : decode cc pc = .ok (.getfield 43, 3)) (kk : W p l e R s m args below meth c H locs cells slots Q (F0 m (pc + 3) ls (.int (gI σ 260) :: rest))) : W p l e R s m args below meth c H locs cells slots Q (F0 m pc ls (.ref (E 4) :: rest)) :=
  x_getI hC hb hP inGX1 lc_4 rfl 4 (by decide) rfl (gw_t (tb1 (List.mem_of_getElem? (i := 177) rfl)) rfl) rfl hdg kk
theorem gf_X1_51 {p : Program} {l : Launch} {e : Env} {R : Room} {s : State} {m : MethodId} {args : Array Value} {below : List Frame} {meth : Method} {c : Code} {H : Heap} {locs : List Loc} {cells slots : Nat} {Q : State → Prop} {D : va_G} {Y : CYs} {E : Nat → Nat} {σ : Sta} {cc : ByteArray} {pc : Nat} {ls : Array Slot} {rest : List Value} (hC : Ctx p s m args RX1 D Y) (hb : c.code = cc) (hP : va_P D vwCl (wd Y E σ 0 LC) H) (hdg : decode cc pc = .ok (.getfield 51, 3)) (kk : W p l e R s m args below meth c H locs cells slots Q (F0 m (pc + 3) ls (.int (gI σ 262) :: rest))) : W p l e R s m args below meth c H locs cells slots Q (F0 m pc ls (.ref (E 4) :: rest)) :=
  x_getI hC hb hP inGX1 lc_4 rfl 6 (by decide) rfl (gw_t (tb1 (List.mem_of_getElem? (i := 179) rfl)) rfl) rfl hdg kk
theorem gf_X1_78 {p : Program} {l : Launch} {e : Env} {R : Room} {s : State} {m : MethodId} {args : Array Value} {below : List Frame} {meth : Method} {c : Code} {H : Heap} {locs : List Loc} {cells slots : Nat} {Q : State → Prop} {D : va_G} {Y : CYs} {E : Nat → Nat} {σ : Sta} {cc : ByteArray} {pc : Nat} {ls : Array Slot} {rest : List Value} (hC : Ctx p s m args RX1 D Y) (hb : c.code = cc) (hP : va_P D vwCl (wd Y E σ 0 LC) H) (hdg : decode cc pc = .ok (.getfield 78, 3)) (kk : W p l e R s m args below meth c H locs cells slots Q (F0 m (pc + 3) ls (.int (gI σ 261) :: rest))) : W p l e R s m args below meth c H locs cells slots Q (F0 m pc ls (.ref (E 4) :: rest)) :=
  x_getI hC hb hP inGX1 lc_4 rfl 5 (by decide) rfl (gw_t (tb1 (List.mem_of_getElem? (i := 178) rfl)) rfl) rfl hdg kk
theorem pf_X1_81 {p : Program} {l : Launch} {e : Env} {R : Room} {s : State} {m : MethodId} {args : Array Value} {below : List Frame} {meth : Method} {c : Code} {H : Heap} {locs : List Loc} {cells slots : Nat} {Q : State → Prop} {D : va_G} {Y : CYs} {E : Nat → Nat} {σ : Sta} {cc : ByteArray} {pc : Nat} {ls : Array Slot} {rest : List Value} {A : Nat → Prop} {H0 : Heap} {x : Int32} (hC : Ctx p s m args RX1 D Y) (hb : c.code = cc) (hP : va_P D vwCl (wd Y E σ 0 LC) H) (hD : ∀ τ, va_D A (wd Y E τ 0 LC)) (hS : va_S A H0 H locs) (hdg : decode cc pc = .ok (.putfield 81, 3)) (kk : ∀ (H1 : Heap) (locs1 : List Loc) (τ : Sta), τ = sI σ 263 x → va_P D vwCl (wd Y E τ 0 LC) H1 → va_S A H0 H1 locs1 → W p l e R s m args below meth c H1 locs1 cells slots Q (F0 m (pc + 3) ls rest)) : W p l e R s m args below meth c H locs cells slots Q (F0 m pc ls (.int x :: .ref (E 4) :: rest)) :=
  x_putI lokC hC hb hP hD hS inGX1 tyX1 tyX1_ok nmX1 lc_4 rfl 7 (by decide) rfl (gw_t (tb1 (List.mem_of_getElem? (i := 181) rfl)) rfl) rfl rfl rfl rfl rfl hdg kk
theorem pf_X1_51 {p : Program} {l : Launch} {e : Env} {R : Room} {s : State} {m : MethodId} {args : Array Value} {below : List Frame} {meth : Method} {c : Code} {H : Heap} {locs : List Loc} {cells slots : Nat} {Q : State → Prop} {D : va_G} {Y : CYs} {E : Nat → Nat} {σ : Sta} {cc : ByteArray} {pc : Nat} {ls : Array Slot} {rest : List Value} {A : Nat → Prop} {H0 : Heap} {x : Int32} (hC : Ctx p s m args RX1 D Y) (hb : c.code = cc) (hP : va_P D vwCl (wd Y E σ 0 LC) H) (hD : ∀ τ, va_D A (wd Y E τ 0 LC)) (hS : va_S A H0 H locs) (hdg : decode cc pc = .ok (.putfield 51, 3)) (kk : ∀ (H1 : Heap) (locs1 : List Loc) (τ : Sta), τ = sI σ 262 x → va_P D vwCl (wd Y E τ 0 LC) H1 → va_S A H0 H1 locs1 → W p l e R s m args below meth c H1 locs1 cells slots Q (F0 m (pc + 3) ls rest)) : W p l e R s m args below meth c H locs cells slots Q (F0 m pc ls (.int x :: .ref (E 4) :: rest)) :=
  x_putI lokC hC hb hP hD hS inGX1 tyX1 tyX1_ok nmX1 lc_4 rfl 6 (by decide) rfl (gw_t (tb1 (List.mem_of_getElem? (i := 179) rfl)) rfl) rfl rfl rfl rfl rfl hdg kk
theorem gf_X1_133 {p : Program} {l : Launch} {e : Env} {R : Room} {s : State} {m : MethodId} {args : Array Value} {below : List Frame} {meth : Method} {c : Code} {H : Heap} {locs : List Loc} {cells slots : Nat} {Q : State → Prop} {D : va_G} {Y : CYs} {E : Nat → Nat} {σ : Sta} {cc : ByteArray} {pc : Nat} {ls : Array Slot} {rest : List Value} (hC : Ctx p s m args RX1 D Y) (hb : c.code = cc) (hP : va_P D vwCl (wd Y E σ 0 LC) H) (hdg : decode cc pc = .ok (.getfield 133, 3)) (kk : W p l e R s m args below meth c H locs cells slots Q (F0 m (pc + 3) ls (.ref (E 12) :: rest))) : W p l e R s m args below meth c H locs cells slots Q (F0 m pc ls (.ref (E 1) :: rest)) :=
  x_getRN hC hb hP inGX7 lc_1 rfl 1 (by decide) rfl (List.mem_of_getElem? (i := 2) rfl) rfl hdg kk
theorem cw_X1_27 {R : Room} {p : Program} {s : State} {m : MethodId} {args : Array Value} {D : va_G} {Y : CYs} {rm : Room} (hC : Ctx p s m args RX1 D Y) (hrc : rm.cells = 0) (hrs : rm.slots = 0) (hR : rm.frames + 1 ≤ R.frames ∧ 8 + (2 + 11) + rm.locals ≤ R.locals) : CallW R s args RX1 RX1 27 yX1_look cX1_look 2 (some .int) (Cond.code yX1_look cX1_look 2 (some .int) :: gW) rm 0 0 0 :=
  cwV 0 hC.2.1 (gi_V (gw_t (tb3 (List.mem_of_getElem? (i := 70) rfl)) rfl) (gw_t (tb3 (List.mem_of_getElem? (i := 72) rfl)) rfl) (gw_s (q := (⟨"MarkovBench$Parser", "look", "()I"⟩, 8)) (lp1_ (List.mem_of_getElem? (i := 7) rfl))) (gw_t (tb1 (List.mem_of_getElem? (i := 5) rfl)) rfl) (gw_t (tb3 (List.mem_of_getElem? (i := 73) rfl)) rfl)) rfl hrc hrs ⟨rfl, by decide +kernel, by decide +kernel, by decide +kernel⟩ hR
theorem pf_X1_43 {p : Program} {l : Launch} {e : Env} {R : Room} {s : State} {m : MethodId} {args : Array Value} {below : List Frame} {meth : Method} {c : Code} {H : Heap} {locs : List Loc} {cells slots : Nat} {Q : State → Prop} {D : va_G} {Y : CYs} {E : Nat → Nat} {σ : Sta} {cc : ByteArray} {pc : Nat} {ls : Array Slot} {rest : List Value} {A : Nat → Prop} {H0 : Heap} {x : Int32} (hC : Ctx p s m args RX1 D Y) (hb : c.code = cc) (hP : va_P D vwCl (wd Y E σ 0 LC) H) (hD : ∀ τ, va_D A (wd Y E τ 0 LC)) (hS : va_S A H0 H locs) (hdg : decode cc pc = .ok (.putfield 43, 3)) (kk : ∀ (H1 : Heap) (locs1 : List Loc) (τ : Sta), τ = sI σ 260 x → va_P D vwCl (wd Y E τ 0 LC) H1 → va_S A H0 H1 locs1 → W p l e R s m args below meth c H1 locs1 cells slots Q (F0 m (pc + 3) ls rest)) : W p l e R s m args below meth c H locs cells slots Q (F0 m pc ls (.int x :: .ref (E 4) :: rest)) :=
  x_putI lokC hC hb hP hD hS inGX1 tyX1 tyX1_ok nmX1 lc_4 rfl 4 (by decide) rfl (gw_t (tb1 (List.mem_of_getElem? (i := 177) rfl)) rfl) rfl rfl rfl rfl rfl hdg kk
theorem cw_X1_47 {R : Room} {p : Program} {s : State} {m : MethodId} {args : Array Value} {D : va_G} {Y : CYs} {rm : Room} (hC : Ctx p s m args RX1 D Y) (hrc : rm.cells = 0) (hrs : rm.slots = 0) (hR : rm.frames + 1 ≤ R.frames ∧ 8 + (3 + 11) + rm.locals ≤ R.locals) : CallW R s args RX1 RX1 47 yX1_fail cX1_fail 3 none (Cond.code yX1_fail cX1_fail 3 none :: gW) rm 0 0 2 :=
  cwV 2 hC.2.1 (gi_V (gw_t (tb3 (List.mem_of_getElem? (i := 82) rfl)) rfl) (gw_t (tb3 (List.mem_of_getElem? (i := 84) rfl)) rfl) (gw_s (q := (⟨"MarkovBench$Parser", "fail", "(II)V"⟩, 8)) (lp1_ (List.mem_of_getElem? (i := 10) rfl))) (gw_t (tb1 (List.mem_of_getElem? (i := 5) rfl)) rfl) (gw_t (tb3 (List.mem_of_getElem? (i := 85) rfl)) rfl)) rfl hrc hrs ⟨rfl, by decide +kernel, by decide +kernel, by decide +kernel⟩ hR
theorem gf_X7_22 {p : Program} {l : Launch} {e : Env} {R : Room} {s : State} {m : MethodId} {args : Array Value} {below : List Frame} {meth : Method} {c : Code} {H : Heap} {locs : List Loc} {cells slots : Nat} {Q : State → Prop} {D : va_G} {Y : CYs} {E : Nat → Nat} {σ : Sta} {cc : ByteArray} {pc : Nat} {ls : Array Slot} {rest : List Value} (hC : Ctx p s m args RX7 D Y) (hb : c.code = cc) (hP : va_P D vwCl (wd Y E σ 0 LC) H) (hdg : decode cc pc = .ok (.getfield 22, 3)) (kk : W p l e R s m args below meth c H locs cells slots Q (F0 m (pc + 3) ls (.int (gI σ 67) :: rest))) : W p l e R s m args below meth c H locs cells slots Q (F0 m pc ls (.ref (E 1) :: rest)) :=
  x_getI hC hb hP inGX7 lc_1 rfl 3 (by decide) rfl (gw_t (tb1 (List.mem_of_getElem? (i := 45) rfl)) rfl) rfl hdg kk
theorem gf_X7_9 {p : Program} {l : Launch} {e : Env} {R : Room} {s : State} {m : MethodId} {args : Array Value} {below : List Frame} {meth : Method} {c : Code} {H : Heap} {locs : List Loc} {cells slots : Nat} {Q : State → Prop} {D : va_G} {Y : CYs} {E : Nat → Nat} {σ : Sta} {cc : ByteArray} {pc : Nat} {ls : Array Slot} {rest : List Value} (hC : Ctx p s m args RX7 D Y) (hb : c.code = cc) (hP : va_P D vwCl (wd Y E σ 0 LC) H) (hdg : decode cc pc = .ok (.getfield 9, 3)) (kk : W p l e R s m args below meth c H locs cells slots Q (F0 m (pc + 3) ls (.ref (E 11) :: rest))) : W p l e R s m args below meth c H locs cells slots Q (F0 m pc ls (.ref (E 1) :: rest)) :=
  x_getR hC hb hP inGX7 lc_1 rfl 0 (by decide) rfl (gw_t (tb1 (List.mem_of_getElem? (i := 40) rfl)) rfl) rfl hdg kk
theorem gf_X7_18 {p : Program} {l : Launch} {e : Env} {R : Room} {s : State} {m : MethodId} {args : Array Value} {below : List Frame} {meth : Method} {c : Code} {H : Heap} {locs : List Loc} {cells slots : Nat} {Q : State → Prop} {D : va_G} {Y : CYs} {E : Nat → Nat} {σ : Sta} {cc : ByteArray} {pc : Nat} {ls : Array Slot} {rest : List Value} (hC : Ctx p s m args RX7 D Y) (hb : c.code = cc) (hP : va_P D vwCl (wd Y E σ 0 LC) H) (hdg : decode cc pc = .ok (.getfield 18, 3)) (kk : W p l e R s m args below meth c H locs cells slots Q (F0 m (pc + 3) ls (.ref (E 13) :: rest))) : W p l e R s m args below meth c H locs cells slots Q (F0 m pc ls (.ref (E 1) :: rest)) :=
  x_getR hC hb hP inGX7 lc_1 rfl 2 (by decide) rfl (gw_t (tb1 (List.mem_of_getElem? (i := 44) rfl)) rfl) rfl hdg kk
abbrev rm_X1_look : Room := { frames := 0, cells := 0, slots := 0, locals := 0 }
def f_X1_look_61 (s0 : Int32) (σ : Sta) : Option (Int32 × Sta) :=
  some (s0, σ)
set_option maxHeartbeats 4000000 in
set_option maxRecDepth 100000 in
theorem t_X1_look_61 {l : Launch} {D : va_G} {Y : CYs} {E : Nat → Nat} {p : Program} {e : Env} {s : State} {m : MethodId} {args : Array Value} {below : List Frame} {meth : Method} {c : Code} (hF : Fr p s m args meth c RX1 cX1_look 2 (some .int) D Y E LC) {o : Int32 × Sta} : ∀ (s0 : Int32) (σ : Sta) (H : Heap) (locs : List Loc) (ls : Array Slot), f_X1_look_61 s0 σ = some o → va_P D vwCl (wd Y E σ 0 LC) H → va_S (AF E LC.length s.heap.size) s.heap H locs → lv_has ls 2 [] → WI p l e rm_X1_look s m args below meth c LC Y D E o H locs (F0 m 61 ls [.int s0]) := by
  intro s0 σ H locs ls h hP hS hl
  unfold f_X1_look_61 at h
  obtain ⟨hC, hb, hml, hr, hlk, hD⟩ := id hF
  have hx := hC.1
  exact x_iret hF hP hS h dX1_look_61

def f_X1_look_38 (s0 : Int32) (σ : Sta) : Option (Int32 × Sta) :=
  if s0 = 0 then
    f_X1_look_61 279 σ
  else
    if gI σ 260 < 0 ∨ 1501 ≤ ((gI σ 260).toNatClampNeg) then none else (
    f_X1_look_61 (gA σ 11 ((gI σ 260).toNatClampNeg)) σ)
set_option maxHeartbeats 4000000 in
set_option maxRecDepth 100000 in
theorem t_X1_look_38 {l : Launch} {D : va_G} {Y : CYs} {E : Nat → Nat} {p : Program} {e : Env} {s : State} {m : MethodId} {args : Array Value} {below : List Frame} {meth : Method} {c : Code} (hF : Fr p s m args meth c RX1 cX1_look 2 (some .int) D Y E LC) {o : Int32 × Sta} : ∀ (s0 : Int32) (σ : Sta) (H : Heap) (locs : List Loc) (ls : Array Slot), f_X1_look_38 s0 σ = some o → va_P D vwCl (wd Y E σ 0 LC) H → va_S (AF E LC.length s.heap.size) s.heap H locs → lv_has ls 2 [(0, .ref (E 4))] → WI p l e rm_X1_look s m args below meth c LC Y D E o H locs (F0 m 38 ls [.int s0]) := by
  intro s0 σ H locs ls h hP hS hl
  unfold f_X1_look_38 at h
  obtain ⟨hC, hb, hml, hr, hlk, hD⟩ := id hF
  have hx := hC.1
  refine lv_istore_n (lv' := [(1, .int s0), (0, .ref (E 4))]) hx hb dX1_look_38 rfl hl (by decide) rfl (fun ls hl => ?_)
  refine lv_iload_n hx hb dX1_look_39 rfl (lv_at hl 0 rfl) ?_
  refine lv_if_eq (tgt := 58) hx hb dX1_look_40 (by decide) (fun c1 => ?_) (fun c1 => ?_)
  · have h := of_t h c1
    refine lv_sipush (v := 279) hx hb dX1_look_58 (by decide) ?_
    exact t_X1_look_61  hF 279 σ _ _ _ h hP hS (lv_sub hl [] rfl)
  · have h := of_f h c1
    refine lv_aload_n hx hb dX1_look_43 rfl (lv_at hl 1 rfl) ?_
    refine gf_X1_9 hC hb hP dX1_look_44 ?_
    refine gf_X1_199 hC hb hP dX1_look_47 ?_
    refine lv_aload_n hx hb dX1_look_50 rfl (lv_at hl 1 rfl) ?_
    refine gf_X1_43 hC hb hP dX1_look_51 ?_
    obtain ⟨g2, h⟩ := of_gd h
    refine x_iald hC hb hP lc_11 g2 dX1_look_54 ?_
    refine lv_goto (tgt := 61) hx hb dX1_look_55 (by decide) ?_
    exact t_X1_look_61  hF (gA σ 11 ((gI σ 260).toNatClampNeg)) σ _ _ _ h hP hS (lv_sub hl [] rfl)

def f_X1_look_37 (σ : Sta) : Option (Int32 × Sta) :=
  f_X1_look_38 0 σ
set_option maxHeartbeats 4000000 in
set_option maxRecDepth 100000 in
theorem t_X1_look_37 {l : Launch} {D : va_G} {Y : CYs} {E : Nat → Nat} {p : Program} {e : Env} {s : State} {m : MethodId} {args : Array Value} {below : List Frame} {meth : Method} {c : Code} (hF : Fr p s m args meth c RX1 cX1_look 2 (some .int) D Y E LC) {o : Int32 × Sta} : ∀ (σ : Sta) (H : Heap) (locs : List Loc) (ls : Array Slot), f_X1_look_37 σ = some o → va_P D vwCl (wd Y E σ 0 LC) H → va_S (AF E LC.length s.heap.size) s.heap H locs → lv_has ls 2 [(0, .ref (E 4))] → WI p l e rm_X1_look s m args below meth c LC Y D E o H locs (F0 m 37 ls []) := by
  intro σ H locs ls h hP hS hl
  unfold f_X1_look_37 at h
  obtain ⟨hC, hb, hml, hr, hlk, hD⟩ := id hF
  have hx := hC.1
  refine lv_iconst (v := 0) hx hb dX1_look_37 (by decide) ?_
  exact t_X1_look_38  hF 0 σ _ _ _ h hP hS (lv_sub hl [0] rfl)

def f_X1_look (σ : Sta) : Option (Int32 × Sta) :=
  if gI σ 262 = 0 then
    if gI σ 261 ≤ gI σ 260 then
      f_X1_look_37 σ
    else
      if 1501 ≤ gI σ 260 then
        f_X1_look_37 σ
      else
        f_X1_look_38 1 σ
  else
    f_X1_look_37 σ
set_option maxHeartbeats 4000000 in
set_option maxRecDepth 100000 in
theorem c_X1_look {l : Launch} {D : va_G} {Y : CYs} {E : Nat → Nat} {σ : Sta} {o : Int32 × Sta} (h : f_X1_look σ = some o) : MI l yX1_look (Cond.code yX1_look cX1_look 2 (some .int) :: gW) rm_X1_look LC Y D E [.ref (E 4)] σ o := by
  intro sz
  refine Met_of (Qc := fun sz => QI LC Y D E sz o) (by decide) (Nat.le_of_ble_eq_true rfl) (fun p e s m args below meth c hF hP ls hl => ?_) sz
  have hS : va_S (AF E LC.length s.heap.size) s.heap s.heap [] := va_S.rf
  have hl : lv_has ls 2 [(0, .ref (E 4))] := hl
  show WI p l e rm_X1_look s m args below meth c LC Y D E o s.heap [] (F0 m 0 ls [])
  unfold f_X1_look at h
  obtain ⟨hC, hb, hml, hr, hlk, hD⟩ := id hF
  have hx := hC.1
  refine lv_aload_n hx hb dX1_look_0 rfl (lv_at hl 0 rfl) ?_
  refine gf_X1_51 hC hb hP dX1_look_1 ?_
  refine lv_if_ne (tgt := 37) hx hb dX1_look_4 (by decide) (fun c1 => ?_) (fun c1 => ?_)
  · have h := of_f h c1
    exact t_X1_look_37  hF σ _ _ _ h hP hS (lv_sub hl [0] rfl)
  · have h := of_t h c1
    refine lv_aload_n hx hb dX1_look_7 rfl (lv_at hl 0 rfl) ?_
    refine gf_X1_43 hC hb hP dX1_look_8 ?_
    refine lv_aload_n hx hb dX1_look_11 rfl (lv_at hl 0 rfl) ?_
    refine gf_X1_78 hC hb hP dX1_look_12 ?_
    refine lv_icmp_ge (tgt := 37) hx hb dX1_look_15 (by decide) (fun c2 => ?_) (fun c2 => ?_)
    · have h := of_t h c2
      exact t_X1_look_37  hF σ _ _ _ h hP hS (lv_sub hl [0] rfl)
    · have h := of_f h c2
      refine lv_aload_n hx hb dX1_look_18 rfl (lv_at hl 0 rfl) ?_
      refine gf_X1_43 hC hb hP dX1_look_19 ?_
      refine lv_aload_n hx hb dX1_look_22 rfl (lv_at hl 0 rfl) ?_
      refine gf_X1_9 hC hb hP dX1_look_23 ?_
      refine gf_X1_199 hC hb hP dX1_look_26 ?_
      refine x_alen (v := 1501) hC hb hP lc_11 (Or.inl rfl) (by decide) dX1_look_29 ?_
      refine lv_icmp_ge (tgt := 37) hx hb dX1_look_30 (by decide) (fun c3 => ?_) (fun c3 => ?_)
      · have h := of_t h c3
        exact t_X1_look_37  hF σ _ _ _ h hP hS (lv_sub hl [0] rfl)
      · have h := of_f h c3
        refine lv_iconst (v := 1) hx hb dX1_look_33 (by decide) ?_
        refine lv_goto (tgt := 38) hx hb dX1_look_34 (by decide) ?_
        exact t_X1_look_38  hF 1 σ _ _ _ h hP hS (lv_sub hl [0] rfl)

abbrev rm_X1_fail : Room := { frames := 0, cells := 0, slots := 0, locals := 0 }
def f_X1_fail_41 (σ : Sta) : Option (Unit × Sta) :=
  some ((), σ)
set_option maxHeartbeats 4000000 in
set_option maxRecDepth 100000 in
theorem t_X1_fail_41 {l : Launch} {D : va_G} {Y : CYs} {E : Nat → Nat} {p : Program} {e : Env} {s : State} {m : MethodId} {args : Array Value} {below : List Frame} {meth : Method} {c : Code} (hF : Fr p s m args meth c RX1 cX1_fail 3 none D Y E LC) {o : Unit × Sta} : ∀ (σ : Sta) (H : Heap) (locs : List Loc) (ls : Array Slot), f_X1_fail_41 σ = some o → va_P D vwCl (wd Y E σ 0 LC) H → va_S (AF E LC.length s.heap.size) s.heap H locs → lv_has ls 3 [] → WV p l e rm_X1_fail s m args below meth c LC Y D E o H locs (F0 m 41 ls []) := by
  intro σ H locs ls h hP hS hl
  unfold f_X1_fail_41 at h
  obtain ⟨hC, hb, hml, hr, hlk, hD⟩ := id hF
  have hx := hC.1
  exact x_vret hF hP hS h dX1_fail_41

def f_X1_fail_38 (s0 : Int32) (σ : Sta) : Option (Unit × Sta) :=
  lt (sI σ 263 s0) (fun σ1 =>
  f_X1_fail_41 σ1)
set_option maxHeartbeats 4000000 in
set_option maxRecDepth 100000 in
theorem t_X1_fail_38 {l : Launch} {D : va_G} {Y : CYs} {E : Nat → Nat} {p : Program} {e : Env} {s : State} {m : MethodId} {args : Array Value} {below : List Frame} {meth : Method} {c : Code} (hF : Fr p s m args meth c RX1 cX1_fail 3 none D Y E LC) {o : Unit × Sta} : ∀ (s0 : Int32) (σ : Sta) (H : Heap) (locs : List Loc) (ls : Array Slot), f_X1_fail_38 s0 σ = some o → va_P D vwCl (wd Y E σ 0 LC) H → va_S (AF E LC.length s.heap.size) s.heap H locs → lv_has ls 3 [] → WV p l e rm_X1_fail s m args below meth c LC Y D E o H locs (F0 m 38 ls [.int s0, .ref (E 4)]) := by
  intro s0 σ H locs ls h hP hS hl
  unfold f_X1_fail_38 at h
  obtain ⟨hC, hb, hml, hr, hlk, hD⟩ := id hF
  have hx := hC.1
  refine pf_X1_81 hC hb hP hD hS dX1_fail_38 (fun H locs σ1 eσ1 hP hS => ?_)
  have h := of_lt h eσ1
  exact t_X1_fail_41  hF σ1 _ _ _ h hP hS (lv_sub hl [] rfl)

def f_X1_fail (a1 : Int32) (a2 : Int32) (σ : Sta) : Option (Unit × Sta) :=
  if gI σ 262 = 0 then
    lt (sI σ 262 a1) (fun σ2 =>
    if 1501 ≤ a2 then
      f_X1_fail_38 (-1) σ2
    else
      if a2 < 0 ∨ 1501 ≤ (a2.toNatClampNeg) then none else (
      f_X1_fail_38 (gA σ2 12 (a2.toNatClampNeg)) σ2))
  else
    f_X1_fail_41 σ
set_option maxHeartbeats 4000000 in
set_option maxRecDepth 100000 in
theorem c_X1_fail {l : Launch} {D : va_G} {Y : CYs} {E : Nat → Nat} {a1 : Int32} {a2 : Int32} {σ : Sta} {o : Unit × Sta} (h : f_X1_fail a1 a2 σ = some o) : MV l yX1_fail (Cond.code yX1_fail cX1_fail 3 none :: gW) rm_X1_fail LC Y D E [.ref (E 4), .int a1, .int a2] σ o := by
  intro sz
  refine Met_of (Qc := fun sz => QV LC Y D E sz o) (by decide) (Nat.le_of_ble_eq_true rfl) (fun p e s m args below meth c hF hP ls hl => ?_) sz
  have hS : va_S (AF E LC.length s.heap.size) s.heap s.heap [] := va_S.rf
  have hl : lv_has ls 3 [(0, .ref (E 4)), (1, .int a1), (2, .int a2)] := hl
  show WV p l e rm_X1_fail s m args below meth c LC Y D E o s.heap [] (F0 m 0 ls [])
  unfold f_X1_fail at h
  obtain ⟨hC, hb, hml, hr, hlk, hD⟩ := id hF
  have hx := hC.1
  refine lv_aload_n hx hb dX1_fail_0 rfl (lv_at hl 0 rfl) ?_
  refine gf_X1_51 hC hb hP dX1_fail_1 ?_
  refine lv_if_ne (tgt := 41) hx hb dX1_fail_4 (by decide) (fun c1 => ?_) (fun c1 => ?_)
  · have h := of_f h c1
    exact t_X1_fail_41  hF σ _ _ _ h hP hS (lv_sub hl [] rfl)
  · have h := of_t h c1
    refine lv_aload_n hx hb dX1_fail_7 rfl (lv_at hl 0 rfl) ?_
    refine lv_iload_n hx hb dX1_fail_8 rfl (lv_at hl 1 rfl) ?_
    refine pf_X1_51 hC hb hP hD hS dX1_fail_9 (fun H locs σ2 eσ2 hP hS => ?_)
    have h := of_lt h eσ2
    refine lv_aload_n hx hb dX1_fail_12 rfl (lv_at hl 0 rfl) ?_
    refine lv_iload_n hx hb dX1_fail_13 rfl (lv_at hl 2 rfl) ?_
    refine lv_aload_n hx hb dX1_fail_14 rfl (lv_at hl 0 rfl) ?_
    refine gf_X1_9 hC hb hP dX1_fail_15 ?_
    refine gf_X1_133 hC hb hP dX1_fail_18 ?_
    refine x_alen (v := 1501) hC hb hP lc_12 (Or.inl rfl) (by decide) dX1_fail_21 ?_
    refine lv_icmp_ge (tgt := 37) hx hb dX1_fail_22 (by decide) (fun c3 => ?_) (fun c3 => ?_)
    · have h := of_t h c3
      refine lv_iconst (v := -1) hx hb dX1_fail_37 (by decide) ?_
      exact t_X1_fail_38  hF (-1) σ2 _ _ _ h hP hS (lv_sub hl [] rfl)
    · have h := of_f h c3
      refine lv_aload_n hx hb dX1_fail_25 rfl (lv_at hl 0 rfl) ?_
      refine gf_X1_9 hC hb hP dX1_fail_26 ?_
      refine gf_X1_133 hC hb hP dX1_fail_29 ?_
      refine lv_iload_n hx hb dX1_fail_32 rfl (lv_at hl 2 rfl) ?_
      obtain ⟨g4, h⟩ := of_gd h
      refine x_iald hC hb hP lc_12 g4 dX1_fail_33 ?_
      refine lv_goto (tgt := 38) hx hb dX1_fail_34 (by decide) ?_
      exact t_X1_fail_38  hF (gA σ2 12 (a2.toNatClampNeg)) σ2 _ _ _ h hP hS (lv_sub hl [] rfl)

abbrev rm_X1_accept : Room := { frames := 1, cells := 0, slots := 0, locals := 21 }
def f_X1_accept (a1 : Int32) (σ : Sta) : Option (Int32 × Sta) :=
  bnd (f_X1_look σ) (fun r1 σ2 =>
  if r1 = a1 then
    lt (sI σ2 260 ((gI σ2 260) + 1)) (fun σ5 =>
    some (1, σ5))
  else
    some (0, σ2))
set_option maxHeartbeats 4000000 in
set_option maxRecDepth 100000 in
theorem c_X1_accept {l : Launch} {D : va_G} {Y : CYs} {E : Nat → Nat} {a1 : Int32} {σ : Sta} {o : Int32 × Sta} (h : f_X1_accept a1 σ = some o) : MI l yX1_accept (Cond.code yX1_accept cX1_accept 2 (some .boolean) :: gW) rm_X1_accept LC Y D E [.ref (E 4), .int a1] σ o := by
  intro sz
  refine Met_of (Qc := fun sz => QI LC Y D E sz o) (by decide) (Nat.le_of_ble_eq_true rfl) (fun p e s m args below meth c hF hP ls hl => ?_) sz
  have hS : va_S (AF E LC.length s.heap.size) s.heap s.heap [] := va_S.rf
  have hl : lv_has ls 2 [(0, .ref (E 4)), (1, .int a1)] := hl
  show WI p l e rm_X1_accept s m args below meth c LC Y D E o s.heap [] (F0 m 0 ls [])
  unfold f_X1_accept at h
  obtain ⟨hC, hb, hml, hr, hlk, hD⟩ := id hF
  have hx := hC.1
  refine lv_aload_n hx hb dX1_accept_0 rfl (lv_at hl 0 rfl) ?_
  obtain ⟨r1, σ2, g3, h⟩ := of_bnd h
  refine x_VI (As := []) (rest := []) hF hl hP hS (c_X1_look g3) (cw_X1_27 hC rfl rfl ⟨Nat.le_of_ble_eq_true rfl, Nat.le_of_ble_eq_true rfl⟩) lc_4 rfl rfl rfl (Nat.le_of_ble_eq_true rfl) dX1_accept_1 ⟨Nat.zero_le _, Nat.zero_le _⟩ (fun H locs hP hS => ?_)
  refine lv_iload_n hx hb dX1_accept_4 rfl (lv_at hl 1 rfl) ?_
  refine lv_icmp_eq (tgt := 10) hx hb dX1_accept_5 (by decide) (fun c4 => ?_) (fun c4 => ?_)
  · have h := of_t h c4
    refine lv_aload_n hx hb dX1_accept_10 rfl (lv_at hl 0 rfl) ?_
    refine lv_dup hx hb dX1_accept_11 rfl ?_
    refine gf_X1_43 hC hb hP dX1_accept_12 ?_
    refine lv_iconst (v := 1) hx hb dX1_accept_15 (by decide) ?_
    refine lv_iadd hx hb dX1_accept_16 ?_
    refine pf_X1_43 hC hb hP hD hS dX1_accept_17 (fun H locs σ5 eσ5 hP hS => ?_)
    have h := of_lt h eσ5
    refine lv_iconst (v := 1) hx hb dX1_accept_20 (by decide) ?_
    exact x_zret hF hP hS rfl h dX1_accept_21
  · have h := of_f h c4
    refine lv_iconst (v := 0) hx hb dX1_accept_8 (by decide) ?_
    exact x_zret hF hP hS rfl h dX1_accept_9

abbrev rm_X1_expect : Room := { frames := 1, cells := 0, slots := 0, locals := 22 }
def f_X1_expect_32 (v2 : Int32) (σ : Sta) : Option (Int32 × Sta) :=
  some (v2, σ)
set_option maxHeartbeats 4000000 in
set_option maxRecDepth 100000 in
theorem t_X1_expect_32 {l : Launch} {D : va_G} {Y : CYs} {E : Nat → Nat} {p : Program} {e : Env} {s : State} {m : MethodId} {args : Array Value} {below : List Frame} {meth : Method} {c : Code} (hF : Fr p s m args meth c RX1 cX1_expect 3 (some .int) D Y E LC) {o : Int32 × Sta} : ∀ (v2 : Int32) (σ : Sta) (H : Heap) (locs : List Loc) (ls : Array Slot), f_X1_expect_32 v2 σ = some o → va_P D vwCl (wd Y E σ 0 LC) H → va_S (AF E LC.length s.heap.size) s.heap H locs → lv_has ls 3 [(2, .int v2)] → WI p l e rm_X1_expect s m args below meth c LC Y D E o H locs (F0 m 32 ls []) := by
  intro v2 σ H locs ls h hP hS hl
  unfold f_X1_expect_32 at h
  obtain ⟨hC, hb, hml, hr, hlk, hD⟩ := id hF
  have hx := hC.1
  refine lv_iload_n hx hb dX1_expect_32 rfl (lv_at hl 0 rfl) ?_
  exact x_iret hF hP hS h dX1_expect_33

def f_X1_expect (a1 : Int32) (σ : Sta) : Option (Int32 × Sta) :=
  lt (gI σ 260) (fun x1 =>
  bnd (f_X1_look σ) (fun r2 σ3 =>
  if r2 = a1 then
    lt (sI σ3 260 ((gI σ3 260) + 1)) (fun σ9 =>
    f_X1_expect_32 x1 σ9)
  else
    bnd (f_X1_fail 1 x1 σ3) (fun _ σ7 =>
    f_X1_expect_32 x1 σ7)))
set_option maxHeartbeats 4000000 in
set_option maxRecDepth 100000 in
theorem c_X1_expect {l : Launch} {D : va_G} {Y : CYs} {E : Nat → Nat} {a1 : Int32} {σ : Sta} {o : Int32 × Sta} (h : f_X1_expect a1 σ = some o) : MI l yX1_expect (Cond.code yX1_expect cX1_expect 3 (some .int) :: gW) rm_X1_expect LC Y D E [.ref (E 4), .int a1] σ o := by
  intro sz
  refine Met_of (Qc := fun sz => QI LC Y D E sz o) (by decide) (Nat.le_of_ble_eq_true rfl) (fun p e s m args below meth c hF hP ls hl => ?_) sz
  have hS : va_S (AF E LC.length s.heap.size) s.heap s.heap [] := va_S.rf
  have hl : lv_has ls 3 [(0, .ref (E 4)), (1, .int a1)] := hl
  show WI p l e rm_X1_expect s m args below meth c LC Y D E o s.heap [] (F0 m 0 ls [])
  unfold f_X1_expect at h
  obtain ⟨hC, hb, hml, hr, hlk, hD⟩ := id hF
  have hx := hC.1
  refine lv_aload_n hx hb dX1_expect_0 rfl (lv_at hl 0 rfl) ?_
  refine gf_X1_43 hC hb hP dX1_expect_1 ?_
  refine lv_topi (fun x1 ex1 => ?_)
  have h := of_lt h ex1
  refine lv_istore_n (lv' := [(2, .int x1), (0, .ref (E 4)), (1, .int a1)]) hx hb dX1_expect_4 rfl hl (by decide) rfl (fun ls hl => ?_)
  refine lv_aload_n hx hb dX1_expect_5 rfl (lv_at hl 1 rfl) ?_
  obtain ⟨r2, σ3, g4, h⟩ := of_bnd h
  refine x_VI (As := []) (rest := []) hF hl hP hS (c_X1_look g4) (cw_X1_27 hC rfl rfl ⟨Nat.le_of_ble_eq_true rfl, Nat.le_of_ble_eq_true rfl⟩) lc_4 rfl rfl rfl (Nat.le_of_ble_eq_true rfl) dX1_expect_6 ⟨Nat.zero_le _, Nat.zero_le _⟩ (fun H locs hP hS => ?_)
  refine lv_iload_n hx hb dX1_expect_9 rfl (lv_at hl 2 rfl) ?_
  refine lv_icmp_ne (tgt := 26) hx hb dX1_expect_10 (by decide) (fun c5 => ?_) (fun c5 => ?_)
  · have h := of_f h c5
    refine lv_aload_n hx hb dX1_expect_26 rfl (lv_at hl 1 rfl) ?_
    refine lv_iconst (v := 1) hx hb dX1_expect_27 (by decide) ?_
    refine lv_iload_n hx hb dX1_expect_28 rfl (lv_at hl 0 rfl) ?_
    obtain ⟨r6, σ7, g8, h⟩ := of_bnd h
    refine x_VV (As := [.int 1, .int x1]) (rest := []) hF hl hP hS (c_X1_fail g8) (cw_X1_47 hC rfl rfl ⟨Nat.le_of_ble_eq_true rfl, Nat.le_of_ble_eq_true rfl⟩) lc_4 rfl rfl rfl (Nat.le_of_ble_eq_true rfl) dX1_expect_29 ⟨Nat.zero_le _, Nat.zero_le _⟩ (fun H locs hP hS => ?_)
    exact t_X1_expect_32  hF x1 σ7 _ _ _ h hP hS (lv_sub hl [0] rfl)
  · have h := of_t h c5
    refine lv_aload_n hx hb dX1_expect_13 rfl (lv_at hl 1 rfl) ?_
    refine lv_dup hx hb dX1_expect_14 rfl ?_
    refine gf_X1_43 hC hb hP dX1_expect_15 ?_
    refine lv_iconst (v := 1) hx hb dX1_expect_18 (by decide) ?_
    refine lv_iadd hx hb dX1_expect_19 ?_
    refine pf_X1_43 hC hb hP hD hS dX1_expect_20 (fun H locs σ9 eσ9 hP hS => ?_)
    have h := of_lt h eσ9
    refine lv_goto (tgt := 32) hx hb dX1_expect_23 (by decide) ?_
    exact t_X1_expect_32  hF x1 σ9 _ _ _ h hP hS (lv_sub hl [0] rfl)

abbrev rm_X7_kindOf : Room := { frames := 0, cells := 0, slots := 0, locals := 0 }
def f_X7_kindOf_24 (s0 : Int32) (σ : Sta) : Option (Int32 × Sta) :=
  some (s0, σ)
set_option maxHeartbeats 4000000 in
set_option maxRecDepth 100000 in
theorem t_X7_kindOf_24 {l : Launch} {D : va_G} {Y : CYs} {E : Nat → Nat} {p : Program} {e : Env} {s : State} {m : MethodId} {args : Array Value} {below : List Frame} {meth : Method} {c : Code} (hF : Fr p s m args meth c RX7 cX7_kindOf 2 (some .int) D Y E LC) {o : Int32 × Sta} : ∀ (s0 : Int32) (σ : Sta) (H : Heap) (locs : List Loc) (ls : Array Slot), f_X7_kindOf_24 s0 σ = some o → va_P D vwCl (wd Y E σ 0 LC) H → va_S (AF E LC.length s.heap.size) s.heap H locs → lv_has ls 2 [] → WI p l e rm_X7_kindOf s m args below meth c LC Y D E o H locs (F0 m 24 ls [.int s0]) := by
  intro s0 σ H locs ls h hP hS hl
  unfold f_X7_kindOf_24 at h
  obtain ⟨hC, hb, hml, hr, hlk, hD⟩ := id hF
  have hx := hC.1
  exact x_iret hF hP hS h dX7_kindOf_24

def f_X7_kindOf_21 (σ : Sta) : Option (Int32 × Sta) :=
  f_X7_kindOf_24 279 σ
set_option maxHeartbeats 4000000 in
set_option maxRecDepth 100000 in
theorem t_X7_kindOf_21 {l : Launch} {D : va_G} {Y : CYs} {E : Nat → Nat} {p : Program} {e : Env} {s : State} {m : MethodId} {args : Array Value} {below : List Frame} {meth : Method} {c : Code} (hF : Fr p s m args meth c RX7 cX7_kindOf 2 (some .int) D Y E LC) {o : Int32 × Sta} : ∀ (σ : Sta) (H : Heap) (locs : List Loc) (ls : Array Slot), f_X7_kindOf_21 σ = some o → va_P D vwCl (wd Y E σ 0 LC) H → va_S (AF E LC.length s.heap.size) s.heap H locs → lv_has ls 2 [] → WI p l e rm_X7_kindOf s m args below meth c LC Y D E o H locs (F0 m 21 ls []) := by
  intro σ H locs ls h hP hS hl
  unfold f_X7_kindOf_21 at h
  obtain ⟨hC, hb, hml, hr, hlk, hD⟩ := id hF
  have hx := hC.1
  refine lv_sipush (v := 279) hx hb dX7_kindOf_21 (by decide) ?_
  exact t_X7_kindOf_24  hF 279 σ _ _ _ h hP hS (lv_sub hl [] rfl)

def f_X7_kindOf (a1 : Int32) (σ : Sta) : Option (Int32 × Sta) :=
  if a1 < 0 then
    f_X7_kindOf_21 σ
  else
    if gI σ 67 ≤ a1 then
      f_X7_kindOf_21 σ
    else
      if a1 < 0 ∨ 1501 ≤ (a1.toNatClampNeg) then none else (
      f_X7_kindOf_24 (gA σ 11 (a1.toNatClampNeg)) σ)
set_option maxHeartbeats 4000000 in
set_option maxRecDepth 100000 in
theorem c_X7_kindOf {l : Launch} {D : va_G} {Y : CYs} {E : Nat → Nat} {a1 : Int32} {σ : Sta} {o : Int32 × Sta} (h : f_X7_kindOf a1 σ = some o) : MI l yX7_kindOf (Cond.code yX7_kindOf cX7_kindOf 2 (some .int) :: gW) rm_X7_kindOf LC Y D E [.ref (E 1), .int a1] σ o := by
  intro sz
  refine Met_of (Qc := fun sz => QI LC Y D E sz o) (by decide) (Nat.le_of_ble_eq_true rfl) (fun p e s m args below meth c hF hP ls hl => ?_) sz
  have hS : va_S (AF E LC.length s.heap.size) s.heap s.heap [] := va_S.rf
  have hl : lv_has ls 2 [(0, .ref (E 1)), (1, .int a1)] := hl
  show WI p l e rm_X7_kindOf s m args below meth c LC Y D E o s.heap [] (F0 m 0 ls [])
  unfold f_X7_kindOf at h
  obtain ⟨hC, hb, hml, hr, hlk, hD⟩ := id hF
  have hx := hC.1
  refine lv_iload_n hx hb dX7_kindOf_0 rfl (lv_at hl 1 rfl) ?_
  refine lv_if_lt (tgt := 21) hx hb dX7_kindOf_1 (by decide) (fun c1 => ?_) (fun c1 => ?_)
  · have h := of_t h c1
    exact t_X7_kindOf_21  hF σ _ _ _ h hP hS (lv_sub hl [] rfl)
  · have h := of_f h c1
    refine lv_iload_n hx hb dX7_kindOf_4 rfl (lv_at hl 1 rfl) ?_
    refine lv_aload_n hx hb dX7_kindOf_5 rfl (lv_at hl 0 rfl) ?_
    refine gf_X7_22 hC hb hP dX7_kindOf_6 ?_
    refine lv_icmp_ge (tgt := 21) hx hb dX7_kindOf_9 (by decide) (fun c2 => ?_) (fun c2 => ?_)
    · have h := of_t h c2
      exact t_X7_kindOf_21  hF σ _ _ _ h hP hS (lv_sub hl [] rfl)
    · have h := of_f h c2
      refine lv_aload_n hx hb dX7_kindOf_12 rfl (lv_at hl 0 rfl) ?_
      refine gf_X7_9 hC hb hP dX7_kindOf_13 ?_
      refine lv_iload_n hx hb dX7_kindOf_16 rfl (lv_at hl 1 rfl) ?_
      obtain ⟨g3, h⟩ := of_gd h
      refine x_iald hC hb hP lc_11 g3 dX7_kindOf_17 ?_
      refine lv_goto (tgt := 24) hx hb dX7_kindOf_18 (by decide) ?_
      exact t_X7_kindOf_24  hF (gA σ 11 (a1.toNatClampNeg)) σ _ _ _ h hP hS (lv_sub hl [] rfl)

abbrev rm_X7_contentOf : Room := { frames := 0, cells := 0, slots := 0, locals := 0 }
def f_X7_contentOf_22 (s0 : Int64) (σ : Sta) : Option (Int64 × Sta) :=
  some (s0, σ)
set_option maxHeartbeats 4000000 in
set_option maxRecDepth 100000 in
theorem t_X7_contentOf_22 {l : Launch} {D : va_G} {Y : CYs} {E : Nat → Nat} {p : Program} {e : Env} {s : State} {m : MethodId} {args : Array Value} {below : List Frame} {meth : Method} {c : Code} (hF : Fr p s m args meth c RX7 cX7_contentOf 2 (some .long) D Y E LC) {o : Int64 × Sta} : ∀ (s0 : Int64) (σ : Sta) (H : Heap) (locs : List Loc) (ls : Array Slot), f_X7_contentOf_22 s0 σ = some o → va_P D vwCl (wd Y E σ 0 LC) H → va_S (AF E LC.length s.heap.size) s.heap H locs → lv_has ls 2 [] → WL p l e rm_X7_contentOf s m args below meth c LC Y D E o H locs (F0 m 22 ls [.long s0]) := by
  intro s0 σ H locs ls h hP hS hl
  unfold f_X7_contentOf_22 at h
  obtain ⟨hC, hb, hml, hr, hlk, hD⟩ := id hF
  have hx := hC.1
  exact x_lret hF hP hS h dX7_contentOf_22

def f_X7_contentOf_21 (σ : Sta) : Option (Int64 × Sta) :=
  f_X7_contentOf_22 0 σ
set_option maxHeartbeats 4000000 in
set_option maxRecDepth 100000 in
theorem t_X7_contentOf_21 {l : Launch} {D : va_G} {Y : CYs} {E : Nat → Nat} {p : Program} {e : Env} {s : State} {m : MethodId} {args : Array Value} {below : List Frame} {meth : Method} {c : Code} (hF : Fr p s m args meth c RX7 cX7_contentOf 2 (some .long) D Y E LC) {o : Int64 × Sta} : ∀ (σ : Sta) (H : Heap) (locs : List Loc) (ls : Array Slot), f_X7_contentOf_21 σ = some o → va_P D vwCl (wd Y E σ 0 LC) H → va_S (AF E LC.length s.heap.size) s.heap H locs → lv_has ls 2 [] → WL p l e rm_X7_contentOf s m args below meth c LC Y D E o H locs (F0 m 21 ls []) := by
  intro σ H locs ls h hP hS hl
  unfold f_X7_contentOf_21 at h
  obtain ⟨hC, hb, hml, hr, hlk, hD⟩ := id hF
  have hx := hC.1
  refine lv_lconst (v := 0) hx hb dX7_contentOf_21 (by decide) ?_
  exact t_X7_contentOf_22  hF 0 σ _ _ _ h hP hS (lv_sub hl [] rfl)

def f_X7_contentOf (a1 : Int32) (σ : Sta) : Option (Int64 × Sta) :=
  if a1 < 0 then
    f_X7_contentOf_21 σ
  else
    if gI σ 67 ≤ a1 then
      f_X7_contentOf_21 σ
    else
      if a1 < 0 ∨ 1501 ≤ (a1.toNatClampNeg) then none else (
      f_X7_contentOf_22 (gJ σ 13 (a1.toNatClampNeg)) σ)
set_option maxHeartbeats 4000000 in
set_option maxRecDepth 100000 in
theorem c_X7_contentOf {l : Launch} {D : va_G} {Y : CYs} {E : Nat → Nat} {a1 : Int32} {σ : Sta} {o : Int64 × Sta} (h : f_X7_contentOf a1 σ = some o) : ML l yX7_contentOf (Cond.code yX7_contentOf cX7_contentOf 2 (some .long) :: gW) rm_X7_contentOf LC Y D E [.ref (E 1), .int a1] σ o := by
  intro sz
  refine Met_of (Qc := fun sz => QL LC Y D E sz o) (by decide) (Nat.le_of_ble_eq_true rfl) (fun p e s m args below meth c hF hP ls hl => ?_) sz
  have hS : va_S (AF E LC.length s.heap.size) s.heap s.heap [] := va_S.rf
  have hl : lv_has ls 2 [(0, .ref (E 1)), (1, .int a1)] := hl
  show WL p l e rm_X7_contentOf s m args below meth c LC Y D E o s.heap [] (F0 m 0 ls [])
  unfold f_X7_contentOf at h
  obtain ⟨hC, hb, hml, hr, hlk, hD⟩ := id hF
  have hx := hC.1
  refine lv_iload_n hx hb dX7_contentOf_0 rfl (lv_at hl 1 rfl) ?_
  refine lv_if_lt (tgt := 21) hx hb dX7_contentOf_1 (by decide) (fun c1 => ?_) (fun c1 => ?_)
  · have h := of_t h c1
    exact t_X7_contentOf_21  hF σ _ _ _ h hP hS (lv_sub hl [] rfl)
  · have h := of_f h c1
    refine lv_iload_n hx hb dX7_contentOf_4 rfl (lv_at hl 1 rfl) ?_
    refine lv_aload_n hx hb dX7_contentOf_5 rfl (lv_at hl 0 rfl) ?_
    refine gf_X7_22 hC hb hP dX7_contentOf_6 ?_
    refine lv_icmp_ge (tgt := 21) hx hb dX7_contentOf_9 (by decide) (fun c2 => ?_) (fun c2 => ?_)
    · have h := of_t h c2
      exact t_X7_contentOf_21  hF σ _ _ _ h hP hS (lv_sub hl [] rfl)
    · have h := of_f h c2
      refine lv_aload_n hx hb dX7_contentOf_12 rfl (lv_at hl 0 rfl) ?_
      refine gf_X7_18 hC hb hP dX7_contentOf_13 ?_
      refine lv_iload_n hx hb dX7_contentOf_16 rfl (lv_at hl 1 rfl) ?_
      obtain ⟨g3, h⟩ := of_gd h
      refine x_lald hC hb hP lc_13 g3 dX7_contentOf_17 ?_
      refine lv_goto (tgt := 22) hx hb dX7_contentOf_18 (by decide) ?_
      exact t_X7_contentOf_22  hF (gJ σ 13 (a1.toNatClampNeg)) σ _ _ _ h hP hS (lv_sub hl [] rfl)
