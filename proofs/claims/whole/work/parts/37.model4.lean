theorem pf_X10_325 {p : Program} {l : Launch} {e : Env} {R : Room} {s : State} {m : MethodId} {args : Array Value} {below : List Frame} {meth : Method} {c : Code} {H : Heap} {locs : List Loc} {cells slots : Nat} {Q : State → Prop} {D : va_G} {Y : CYs} {E : Nat → Nat} {σ : Sta} {cc : ByteArray} {pc : Nat} {ls : Array Slot} {rest : List Value} {X : List Dsc} (hX : Lok (LM ++ X)) {A : Nat → Prop} {H0 : Heap} {x : Int32} (hC : Ctx p s m args RX10 D Y) (hb : c.code = cc) (hP : va_P D vwCl (wd Y E σ 0 (LM ++ X)) H) (hD : ∀ τ, va_D A (wd Y E τ 0 (LM ++ X))) (hS : va_S A H0 H locs) (hdg : decode cc pc = .ok (.putfield 325, 3)) (kk : ∀ (H1 : Heap) (locs1 : List Loc) (τ : Sta), τ = sI σ 34 x → va_P D vwCl (wd Y E τ 0 (LM ++ X)) H1 → va_S A H0 H1 locs1 → W p l e R s m args below meth c H1 locs1 cells slots Q (F0 m (pc + 3) ls rest)) : W p l e R s m args below meth c H locs cells slots Q (F0 m pc ls (.int x :: .ref (E 0) :: rest)) :=
  x_putI hX hC hb hP hD hS inGX10 tyX10 tyX10_ok nmX10 (lm_0 X) rfl 34 (by decide) rfl (gw_t (tb6 (List.mem_of_getElem? (i := 78) rfl)) rfl) rfl rfl rfl rfl rfl hdg kk
theorem gf_X10_59 {p : Program} {l : Launch} {e : Env} {R : Room} {s : State} {m : MethodId} {args : Array Value} {below : List Frame} {meth : Method} {c : Code} {H : Heap} {locs : List Loc} {cells slots : Nat} {Q : State → Prop} {D : va_G} {Y : CYs} {E : Nat → Nat} {σ : Sta} {cc : ByteArray} {pc : Nat} {ls : Array Slot} {rest : List Value} {X : List Dsc} (hC : Ctx p s m args RX10 D Y) (hb : c.code = cc) (hP : va_P D vwCl (wd Y E σ 0 (LM ++ X)) H) (hdg : decode cc pc = .ok (.getfield 59, 3)) (kk : W p l e R s m args below meth c H locs cells slots Q (F0 m (pc + 3) ls (.ref (E 17) :: rest))) : W p l e R s m args below meth c H locs cells slots Q (F0 m pc ls (.ref (E 0) :: rest)) :=
  x_getR hC hb hP inGX10 (lm_0 X) rfl 24 (by decide) rfl (gw_t (tb6 (List.mem_of_getElem? (i := 68) rfl)) rfl) rfl hdg kk
theorem gf_X10_325 {p : Program} {l : Launch} {e : Env} {R : Room} {s : State} {m : MethodId} {args : Array Value} {below : List Frame} {meth : Method} {c : Code} {H : Heap} {locs : List Loc} {cells slots : Nat} {Q : State → Prop} {D : va_G} {Y : CYs} {E : Nat → Nat} {σ : Sta} {cc : ByteArray} {pc : Nat} {ls : Array Slot} {rest : List Value} {X : List Dsc} (hC : Ctx p s m args RX10 D Y) (hb : c.code = cc) (hP : va_P D vwCl (wd Y E σ 0 (LM ++ X)) H) (hdg : decode cc pc = .ok (.getfield 325, 3)) (kk : W p l e R s m args below meth c H locs cells slots Q (F0 m (pc + 3) ls (.int (gI σ 34) :: rest))) : W p l e R s m args below meth c H locs cells slots Q (F0 m pc ls (.ref (E 0) :: rest)) :=
  x_getI hC hb hP inGX10 (lm_0 X) rfl 34 (by decide) rfl (gw_t (tb6 (List.mem_of_getElem? (i := 78) rfl)) rfl) rfl hdg kk
theorem cw_X10_330 {R : Room} {p : Program} {s : State} {m : MethodId} {args : Array Value} {D : va_G} {Y : CYs} {rm : Room} {mc ms : Nat} (hC : Ctx p s m args RX10 D Y) (hrc : rm.cells = mc) (hrs : rm.slots = ms) (hR : rm.frames + 1 ≤ R.frames ∧ 8 + (4 + 11) + rm.locals ≤ R.locals) : CallW R s args RX10 RX10 330 yX10_setOne cX10_setOne 4 none (Cond.code yX10_setOne cX10_setOne 4 none :: gW) rm mc ms 1 :=
  cwV 1 hC.2.1 (gi_V (gw_t (tb7 (List.mem_of_getElem? (i := 178) rfl)) rfl) (gw_t (tb7 (List.mem_of_getElem? (i := 180) rfl)) rfl) (gw_s (q := (⟨"MarkovBenchModel", "setOne", "(I)V"⟩, 57)) (lp6_ (List.mem_of_getElem? (i := 13) rfl))) (gw_t (tb1 (List.mem_of_getElem? (i := 10) rfl)) rfl) (gw_t (tb7 (List.mem_of_getElem? (i := 181) rfl)) rfl)) rfl hrc hrs ⟨rfl, by decide +kernel, by decide +kernel, by decide +kernel⟩ hR
theorem cw_X10_322 {R : Room} {p : Program} {s : State} {m : MethodId} {args : Array Value} {D : va_G} {Y : CYs} {rm : Room} {mc ms : Nat} (hC : Ctx p s m args RX10 D Y) (hrc : rm.cells = mc) (hrs : rm.slots = ms) (hR : rm.frames + 1 ≤ R.frames ∧ 8 + (6 + 11) + rm.locals ≤ R.locals) : CallW R s args RX10 RX10 322 yX10_branch cX10_branch 6 (some .int) (Cond.code yX10_branch cX10_branch 6 (some .int) :: gW) rm mc ms 2 :=
  cwV 2 hC.2.1 (gi_V (gw_t (tb7 (List.mem_of_getElem? (i := 173) rfl)) rfl) (gw_t (tb7 (List.mem_of_getElem? (i := 175) rfl)) rfl) (gw_s (q := (⟨"MarkovBenchModel", "branch", "(II)I"⟩, 57)) (lp6_ (List.mem_of_getElem? (i := 12) rfl))) (gw_t (tb1 (List.mem_of_getElem? (i := 10) rfl)) rfl) (gw_t (tb7 (List.mem_of_getElem? (i := 176) rfl)) rfl)) rfl hrc hrs ⟨rfl, by decide +kernel, by decide +kernel, by decide +kernel⟩ hR
theorem gf_X10_47 {p : Program} {l : Launch} {e : Env} {R : Room} {s : State} {m : MethodId} {args : Array Value} {below : List Frame} {meth : Method} {c : Code} {H : Heap} {locs : List Loc} {cells slots : Nat} {Q : State → Prop} {D : va_G} {Y : CYs} {E : Nat → Nat} {σ : Sta} {cc : ByteArray} {pc : Nat} {ls : Array Slot} {rest : List Value} {X : List Dsc} (hC : Ctx p s m args RX10 D Y) (hb : c.code = cc) (hP : va_P D vwCl (wd Y E σ 0 (LM ++ X)) H) (hdg : decode cc pc = .ok (.getfield 47, 3)) (kk : W p l e R s m args below meth c H locs cells slots Q (F0 m (pc + 3) ls (.ref (E 13) :: rest))) : W p l e R s m args below meth c H locs cells slots Q (F0 m pc ls (.ref (E 0) :: rest)) :=
  x_getR hC hb hP inGX10 (lm_0 X) rfl 20 (by decide) rfl (gw_t (tb6 (List.mem_of_getElem? (i := 64) rfl)) rfl) rfl hdg kk
theorem gf_X10_50 {p : Program} {l : Launch} {e : Env} {R : Room} {s : State} {m : MethodId} {args : Array Value} {below : List Frame} {meth : Method} {c : Code} {H : Heap} {locs : List Loc} {cells slots : Nat} {Q : State → Prop} {D : va_G} {Y : CYs} {E : Nat → Nat} {σ : Sta} {cc : ByteArray} {pc : Nat} {ls : Array Slot} {rest : List Value} {X : List Dsc} (hC : Ctx p s m args RX10 D Y) (hb : c.code = cc) (hP : va_P D vwCl (wd Y E σ 0 (LM ++ X)) H) (hdg : decode cc pc = .ok (.getfield 50, 3)) (kk : W p l e R s m args below meth c H locs cells slots Q (F0 m (pc + 3) ls (.ref (E 14) :: rest))) : W p l e R s m args below meth c H locs cells slots Q (F0 m pc ls (.ref (E 0) :: rest)) :=
  x_getR hC hb hP inGX10 (lm_0 X) rfl 21 (by decide) rfl (gw_t (tb6 (List.mem_of_getElem? (i := 65) rfl)) rfl) rfl hdg kk
theorem gf_X10_53 {p : Program} {l : Launch} {e : Env} {R : Room} {s : State} {m : MethodId} {args : Array Value} {below : List Frame} {meth : Method} {c : Code} {H : Heap} {locs : List Loc} {cells slots : Nat} {Q : State → Prop} {D : va_G} {Y : CYs} {E : Nat → Nat} {σ : Sta} {cc : ByteArray} {pc : Nat} {ls : Array Slot} {rest : List Value} {X : List Dsc} (hC : Ctx p s m args RX10 D Y) (hb : c.code = cc) (hP : va_P D vwCl (wd Y E σ 0 (LM ++ X)) H) (hdg : decode cc pc = .ok (.getfield 53, 3)) (kk : W p l e R s m args below meth c H locs cells slots Q (F0 m (pc + 3) ls (.ref (E 15) :: rest))) : W p l e R s m args below meth c H locs cells slots Q (F0 m pc ls (.ref (E 0) :: rest)) :=
  x_getR hC hb hP inGX10 (lm_0 X) rfl 22 (by decide) rfl (gw_t (tb6 (List.mem_of_getElem? (i := 66) rfl)) rfl) rfl hdg kk
theorem gf_X10_56 {p : Program} {l : Launch} {e : Env} {R : Room} {s : State} {m : MethodId} {args : Array Value} {below : List Frame} {meth : Method} {c : Code} {H : Heap} {locs : List Loc} {cells slots : Nat} {Q : State → Prop} {D : va_G} {Y : CYs} {E : Nat → Nat} {σ : Sta} {cc : ByteArray} {pc : Nat} {ls : Array Slot} {rest : List Value} {X : List Dsc} (hC : Ctx p s m args RX10 D Y) (hb : c.code = cc) (hP : va_P D vwCl (wd Y E σ 0 (LM ++ X)) H) (hdg : decode cc pc = .ok (.getfield 56, 3)) (kk : W p l e R s m args below meth c H locs cells slots Q (F0 m (pc + 3) ls (.ref (E 16) :: rest))) : W p l e R s m args below meth c H locs cells slots Q (F0 m pc ls (.ref (E 0) :: rest)) :=
  x_getR hC hb hP inGX10 (lm_0 X) rfl 23 (by decide) rfl (gw_t (tb6 (List.mem_of_getElem? (i := 67) rfl)) rfl) rfl hdg kk
theorem gf_X10_207 {p : Program} {l : Launch} {e : Env} {R : Room} {s : State} {m : MethodId} {args : Array Value} {below : List Frame} {meth : Method} {c : Code} {H : Heap} {locs : List Loc} {cells slots : Nat} {Q : State → Prop} {D : va_G} {Y : CYs} {E : Nat → Nat} {σ : Sta} {cc : ByteArray} {pc : Nat} {ls : Array Slot} {rest : List Value} {X : List Dsc} (hC : Ctx p s m args RX10 D Y) (hb : c.code = cc) (hP : va_P D vwCl (wd Y E σ 0 (LM ++ X)) H) (hdg : decode cc pc = .ok (.getfield 207, 3)) (kk : W p l e R s m args below meth c H locs cells slots Q (F0 m (pc + 3) ls (.int (gI σ 19) :: rest))) : W p l e R s m args below meth c H locs cells slots Q (F0 m pc ls (.ref (E 0) :: rest)) :=
  x_getI hC hb hP inGX10 (lm_0 X) rfl 19 (by decide) rfl (gw_t (tb6 (List.mem_of_getElem? (i := 63) rfl)) rfl) rfl hdg kk
theorem gf_X10_204 {p : Program} {l : Launch} {e : Env} {R : Room} {s : State} {m : MethodId} {args : Array Value} {below : List Frame} {meth : Method} {c : Code} {H : Heap} {locs : List Loc} {cells slots : Nat} {Q : State → Prop} {D : va_G} {Y : CYs} {E : Nat → Nat} {σ : Sta} {cc : ByteArray} {pc : Nat} {ls : Array Slot} {rest : List Value} {X : List Dsc} (hC : Ctx p s m args RX10 D Y) (hb : c.code = cc) (hP : va_P D vwCl (wd Y E σ 0 (LM ++ X)) H) (hdg : decode cc pc = .ok (.getfield 204, 3)) (kk : W p l e R s m args below meth c H locs cells slots Q (F0 m (pc + 3) ls (.int (gI σ 18) :: rest))) : W p l e R s m args below meth c H locs cells slots Q (F0 m pc ls (.ref (E 0) :: rest)) :=
  x_getI hC hb hP inGX10 (lm_0 X) rfl 18 (by decide) rfl (gw_t (tb6 (List.mem_of_getElem? (i := 62) rfl)) rfl) rfl hdg kk
theorem cw_X10_301 {R : Room} {p : Program} {s : State} {m : MethodId} {args : Array Value} {D : va_G} {Y : CYs} {rm : Room} {mc ms : Nat} (hC : Ctx p s m args RX10 D Y) (hrc : rm.cells = mc) (hrs : rm.slots = ms) (hR : rm.frames + 1 ≤ R.frames ∧ 8 + (8 + 11) + rm.locals ≤ R.locals) : CallW R s args RX10 RX10 301 yX10_command cX10_command 8 none (Cond.code yX10_command cX10_command 8 none :: gW) rm mc ms 0 :=
  cwV 0 hC.2.1 (gi_V (gw_t (tb7 (List.mem_of_getElem? (i := 169) rfl)) rfl) (gw_t (tb7 (List.mem_of_getElem? (i := 171) rfl)) rfl) (gw_s (q := (⟨"MarkovBenchModel", "command", "()V"⟩, 57)) (lp6_ (List.mem_of_getElem? (i := 11) rfl))) (gw_t (tb1 (List.mem_of_getElem? (i := 10) rfl)) rfl) (gw_t (tb7 (List.mem_of_getElem? (i := 172) rfl)) rfl)) rfl hrc hrs ⟨rfl, by decide +kernel, by decide +kernel, by decide +kernel⟩ hR
theorem cw_X10_298 {R : Room} {p : Program} {s : State} {m : MethodId} {args : Array Value} {D : va_G} {Y : CYs} {rm : Room} {mc ms : Nat} (hC : Ctx p s m args RX10 D Y) (hrc : rm.cells = mc) (hrs : rm.slots = ms) (hR : rm.frames + 1 ≤ R.frames ∧ 8 + (4 + 11) + rm.locals ≤ R.locals) : CallW R s args RX10 RX10 298 yX10_gain cX10_gain 4 none (Cond.code yX10_gain cX10_gain 4 none :: gW) rm mc ms 0 :=
  cwV 0 hC.2.1 (gi_V (gw_t (tb7 (List.mem_of_getElem? (i := 111) rfl)) rfl) (gw_t (tb7 (List.mem_of_getElem? (i := 113) rfl)) rfl) (gw_s (q := (⟨"MarkovBenchModel", "gain", "()V"⟩, 57)) (lp5_ (List.mem_of_getElem? (i := 13) rfl))) (gw_t (tb1 (List.mem_of_getElem? (i := 10) rfl)) rfl) (gw_t (tb7 (List.mem_of_getElem? (i := 114) rfl)) rfl)) rfl hrc hrs ⟨rfl, by decide +kernel, by decide +kernel, by decide +kernel⟩ hR
theorem cw_X10_295 {R : Room} {p : Program} {s : State} {m : MethodId} {args : Array Value} {D : va_G} {Y : CYs} {rm : Room} {mc ms : Nat} (hC : Ctx p s m args RX10 D Y) (hrc : rm.cells = mc) (hrs : rm.slots = ms) (hR : rm.frames + 1 ≤ R.frames ∧ 8 + (7 + 11) + rm.locals ≤ R.locals) : CallW R s args RX10 RX10 295 yX10_variable cX10_variable 7 none (Cond.code yX10_variable cX10_variable 7 none :: gW) rm mc ms 0 :=
  cwV 0 hC.2.1 (gi_V (gw_t (tb7 (List.mem_of_getElem? (i := 89) rfl)) rfl) (gw_t (tb7 (List.mem_of_getElem? (i := 91) rfl)) rfl) (gw_s (q := (⟨"MarkovBenchModel", "variable", "()V"⟩, 57)) (lp5_ (List.mem_of_getElem? (i := 8) rfl))) (gw_t (tb1 (List.mem_of_getElem? (i := 10) rfl)) rfl) (gw_t (tb7 (List.mem_of_getElem? (i := 92) rfl)) rfl)) rfl hrc hrs ⟨rfl, by decide +kernel, by decide +kernel, by decide +kernel⟩ hR
theorem cw_X10_333 {R : Room} {p : Program} {s : State} {m : MethodId} {args : Array Value} {D : va_G} {Y : CYs} {rm : Room} {mc ms : Nat} (hC : Ctx p s m args RX10 D Y) (hrc : rm.cells = mc) (hrs : rm.slots = ms) (hR : rm.frames + 1 ≤ R.frames ∧ 8 + (4 + 11) + rm.locals ≤ R.locals) : CallW R s args RX10 RX10 333 yX10_item cX10_item 4 none (Cond.code yX10_item cX10_item 4 none :: gW) rm mc ms 0 :=
  cwV 0 hC.2.1 (gi_V (gw_t (tb7 (List.mem_of_getElem? (i := 45) rfl)) rfl) (gw_t (tb7 (List.mem_of_getElem? (i := 47) rfl)) rfl) (gw_s (q := (⟨"MarkovBenchModel", "item", "()V"⟩, 57)) (lp5_ (List.mem_of_getElem? (i := 4) rfl))) (gw_t (tb1 (List.mem_of_getElem? (i := 10) rfl)) rfl) (gw_t (tb7 (List.mem_of_getElem? (i := 48) rfl)) rfl)) rfl hrc hrs ⟨rfl, by decide +kernel, by decide +kernel, by decide +kernel⟩ hR
def f_X10_branch_209 (s0 : Int32) (σ : Sta) : Option ((Int32 ⊕ (Int32 × Int32)) × Sta) :=
  some (.inl s0, σ)
set_option maxHeartbeats 4000000 in
set_option maxRecDepth 100000 in
theorem t_X10_branch_209 {l : Launch} {D : va_G} {Y : CYs} {E : Nat → Nat} {X : List Dsc} (hX : Lok (LM ++ X)) {p : Program} {e : Env} {s : State} {m : MethodId} {args : Array Value} {below : List Frame} {meth : Method} {c : Code} (hF : Fr p s m args meth c RX10 cX10_branch 6 (some .int) D Y E (LM ++ X)) {o : (Int32 ⊕ (Int32 × Int32)) × Sta} (ht : l.stackTraces = false) (htab : ∀ X u, o = (.inr X, u) → ∀ x ∈ c.exceptionTable.toList, False) : ∀ (s0 : Int32) (σ : Sta) (H : Heap) (locs : List Loc) (ls : Array Slot), f_X10_branch_209 s0 σ = some o → va_P D vwCl (wd Y E σ 0 (LM ++ X)) H → va_S (AF E (LM ++ X).length s.heap.size) s.heap H locs → lv_has ls 6 [] → W p l e (rmw 113 4247 o) s m args below meth c H locs 0 0 (QwI below args s (LM ++ X) Y D E o) (F0 m 209 ls [.int s0]) := by
  intro s0 σ H locs ls h hP hS hl
  unfold f_X10_branch_209 at h
  obtain ⟨hC, hb, hml, hr, hlk, hD, hSW⟩ := id hF
  have hx := hC.1
  exact x_iretW hF hP hS h dX10_branch_209

def f_X10_branch_195 (v2 : Int32) (σ : Sta) : Option ((Int32 ⊕ (Int32 × Int32)) × Sta) :=
  if gI σ 30 = 0 then
    f_X10_branch_209 0 σ
  else
    f_X10_branch_209 (v2 + 1) σ
set_option maxHeartbeats 4000000 in
set_option maxRecDepth 100000 in
theorem t_X10_branch_195 {l : Launch} {D : va_G} {Y : CYs} {E : Nat → Nat} {X : List Dsc} (hX : Lok (LM ++ X)) {p : Program} {e : Env} {s : State} {m : MethodId} {args : Array Value} {below : List Frame} {meth : Method} {c : Code} (hF : Fr p s m args meth c RX10 cX10_branch 6 (some .int) D Y E (LM ++ X)) {o : (Int32 ⊕ (Int32 × Int32)) × Sta} (ht : l.stackTraces = false) (htab : ∀ X u, o = (.inr X, u) → ∀ x ∈ c.exceptionTable.toList, False) : ∀ (v2 : Int32) (σ : Sta) (H : Heap) (locs : List Loc) (ls : Array Slot), f_X10_branch_195 v2 σ = some o → va_P D vwCl (wd Y E σ 0 (LM ++ X)) H → va_S (AF E (LM ++ X).length s.heap.size) s.heap H locs → lv_has ls 6 [(0, .ref (E 0)), (2, .int v2)] → W p l e (rmw 113 4247 o) s m args below meth c H locs 0 0 (QwI below args s (LM ++ X) Y D E o) (F0 m 195 ls []) := by
  intro v2 σ H locs ls h hP hS hl
  unfold f_X10_branch_195 at h
  obtain ⟨hC, hb, hml, hr, hlk, hD, hSW⟩ := id hF
  have hx := hC.1
  refine lv_aload_n hx hb dX10_branch_195 rfl (lv_at hl 0 rfl) ?_
  refine gf_X10_227 hC hb hP dX10_branch_196 ?_
  refine lv_if_eq (tgt := 208) hx hb dX10_branch_199 (by decide) (fun c1 => ?_) (fun c1 => ?_)
  · have h := of_t h c1
    refine lv_iconst (v := 0) hx hb dX10_branch_208 (by decide) ?_
    exact t_X10_branch_209 hX  hF ht htab 0 σ _ _ _ h hP hS (lv_sub hl [] rfl)
  · have h := of_f h c1
    refine lv_iload_n hx hb dX10_branch_202 rfl (lv_at hl 1 rfl) ?_
    refine lv_iconst (v := 1) hx hb dX10_branch_203 (by decide) ?_
    refine lv_iadd hx hb dX10_branch_204 ?_
    refine lv_goto (tgt := 209) hx hb dX10_branch_205 (by decide) ?_
    exact t_X10_branch_209 hX  hF ht htab (v2 + 1) σ _ _ _ h hP hS (lv_sub hl [] rfl)

def f_X10_branch_173 : Nat → Int32 → Int32 → Sta → Option ((Int32 ⊕ (Int32 × Int32)) × Sta)
  | 0, _, _, _ => none
  | n + 1, v2, v4, σ => bnd (f_X10_is 104 σ) (fun r1 σ2 =>
    if r1 = 0 then
      f_X10_branch_195 v2 σ2
    else
      bnw (f_X10_take σ2) (fun _ σ6 =>
      bnw (f_X10_setOne v4 σ6) (fun _ σ9 =>
      f_X10_branch_173 n v2 v4 σ9)))
set_option maxHeartbeats 4000000 in
set_option maxRecDepth 100000 in
theorem t_X10_branch_173 {l : Launch} {D : va_G} {Y : CYs} {E : Nat → Nat} {X : List Dsc} (hX : Lok (LM ++ X)) {p : Program} {e : Env} {s : State} {m : MethodId} {args : Array Value} {below : List Frame} {meth : Method} {c : Code} (hF : Fr p s m args meth c RX10 cX10_branch 6 (some .int) D Y E (LM ++ X)) {o : (Int32 ⊕ (Int32 × Int32)) × Sta} (ht : l.stackTraces = false) (htab : ∀ X u, o = (.inr X, u) → ∀ x ∈ c.exceptionTable.toList, False) : ∀ (n : Nat) (v2 : Int32) (v4 : Int32) (σ : Sta) (H : Heap) (locs : List Loc) (ls : Array Slot), f_X10_branch_173 n v2 v4 σ = some o → va_P D vwCl (wd Y E σ 0 (LM ++ X)) H → va_S (AF E (LM ++ X).length s.heap.size) s.heap H locs → lv_has ls 6 [(0, .ref (E 0)), (2, .int v2), (4, .int v4)] → W p l e (rmw 113 4247 o) s m args below meth c H locs 0 0 (QwI below args s (LM ++ X) Y D E o) (F0 m 173 ls []) := by
  intro n
  induction n with
  | zero =>
    intro v2 v4 σ H locs ls h hP hS hl
    exact nomatch (show (none : Option ((Int32 ⊕ (Int32 × Int32)) × Sta)) = some o from h)
  | succ n ih =>
    intro v2 v4 σ H locs ls h hP hS hl
    rw [f_X10_branch_173] at h
    obtain ⟨hC, hb, hml, hr, hlk, hD, hSW⟩ := id hF
    have hx := hC.1
    refine lv_aload_n hx hb dX10_branch_173 rfl (lv_at hl 0 rfl) ?_
    refine lv_bipush (v := 104) hx hb dX10_branch_174 (by decide) ?_
    obtain ⟨r1, σ2, g3, h⟩ := of_bnd h
    refine x_VI (As := [.int 104]) (rest := []) hF hl hP hS (c_X10_is hX g3) (cw_X10_238 hC rfl rfl ⟨Nat.le_of_ble_eq_true rfl, Nat.le_of_ble_eq_true rfl⟩) (lm_0 X) rfl rfl rfl (Nat.le_of_ble_eq_true rfl) dX10_branch_176 ⟨Nat.zero_le _, Nat.zero_le _⟩ (fun H locs hP hS => ?_)
    refine lv_if_eq (tgt := 195) hx hb dX10_branch_179 (by decide) (fun c4 => ?_) (fun c4 => ?_)
    · have h := of_t h c4
      exact t_X10_branch_195 hX  hF ht htab v2 σ2 _ _ _ h hP hS (lv_sub hl [0, 1] rfl)
    · have h := of_f h c4
      refine lv_aload_n hx hb dX10_branch_182 rfl (lv_at hl 0 rfl) ?_
      rcases of_bnw h with ⟨r5, σ6, g7, h⟩ | ⟨Xx, σ6, g7, rfl⟩
      rotate_left
      · exact x_VTw (As := []) (rest := []) hF hl hP hS (c_X10_take hX ht g7) (cw_X10_241 hC rfl rfl ⟨Nat.le_of_ble_eq_true rfl, Nat.le_of_ble_eq_true rfl⟩) (lm_0 X) rfl rfl rfl (Nat.le_of_ble_eq_true rfl) dX10_branch_183 ⟨Nat.le_refl _, Nat.le_refl _⟩ (htab _ _ rfl)
      refine x_VV (As := []) (rest := []) hF hl hP hS (c_X10_take hX ht g7) (cw_X10_241 hC rfl rfl ⟨Nat.le_of_ble_eq_true rfl, Nat.le_of_ble_eq_true rfl⟩) (lm_0 X) rfl rfl rfl (Nat.le_of_ble_eq_true rfl) dX10_branch_183 ⟨Nat.zero_le _, Nat.zero_le _⟩ (fun H locs hP hS => ?_)
      refine lv_aload_n hx hb dX10_branch_186 rfl (lv_at hl 0 rfl) ?_
      refine lv_iload hx hb dX10_branch_187 (lv_at hl 2 rfl) ?_
      rcases of_bnw h with ⟨r8, σ9, g10, h⟩ | ⟨Xx, σ9, g10, rfl⟩
      rotate_left
      · exact x_VTw (As := [.int v4]) (rest := []) hF hl hP hS (c_X10_setOne hX ht g10) (cw_X10_330 hC rfl rfl ⟨Nat.le_of_ble_eq_true rfl, Nat.le_of_ble_eq_true rfl⟩) (lm_0 X) rfl rfl rfl (Nat.le_of_ble_eq_true rfl) dX10_branch_189 ⟨Nat.le_refl _, Nat.le_refl _⟩ (htab _ _ rfl)
      refine x_VV (As := [.int v4]) (rest := []) hF hl hP hS (c_X10_setOne hX ht g10) (cw_X10_330 hC rfl rfl ⟨Nat.le_of_ble_eq_true rfl, Nat.le_of_ble_eq_true rfl⟩) (lm_0 X) rfl rfl rfl (Nat.le_of_ble_eq_true rfl) dX10_branch_189 ⟨Nat.zero_le _, Nat.zero_le _⟩ (fun H locs hP hS => ?_)
      refine lv_goto (tgt := 173) hx hb dX10_branch_192 (by decide) ?_
      exact ih v2 v4 σ9 _ _ _ h hP hS (lv_sub hl [0, 1, 2] rfl)

def f_X10_branch_116 : Nat → Int32 → Int32 → Int32 → Sta → Option ((Int32 ⊕ (Int32 × Int32)) × Sta)
  | 0, _, _, _, _ => none
  | n + 1, v2, v4, v5, σ => if 6 ≤ v5 then
      if v4 < 0 ∨ 64 ≤ (v4.toNatClampNeg) then none else (
      lt (sA σ 17 (upd (gA σ 17) (v4.toNatClampNeg) (gI σ 34))) (fun σ3 =>
      bnd (f_X10_is 9 σ3) (fun r4 σ5 =>
      if r4 = 0 then
        f_X10_branch_195 v2 σ5
      else
        bnw (f_X10_take σ5) (fun _ σ9 =>
        bnw (f_X10_setOne v4 σ9) (fun _ σ12 =>
        f_X10_branch_173 FU v2 v4 σ12)))))
    else
      if (v4 * 6) + v5 < 0 ∨ 384 ≤ (((v4 * 6) + v5).toNatClampNeg) then none else (
      lt (sA σ 18 (upd (gA σ 18) (((v4 * 6) + v5).toNatClampNeg) (-1))) (fun σ15 =>
      lt (v5 + 1) (fun x16 =>
      f_X10_branch_116 n v2 v4 x16 σ15)))
set_option maxHeartbeats 4000000 in
set_option maxRecDepth 100000 in
theorem t_X10_branch_116 {l : Launch} {D : va_G} {Y : CYs} {E : Nat → Nat} {X : List Dsc} (hX : Lok (LM ++ X)) {p : Program} {e : Env} {s : State} {m : MethodId} {args : Array Value} {below : List Frame} {meth : Method} {c : Code} (hF : Fr p s m args meth c RX10 cX10_branch 6 (some .int) D Y E (LM ++ X)) {o : (Int32 ⊕ (Int32 × Int32)) × Sta} (ht : l.stackTraces = false) (htab : ∀ X u, o = (.inr X, u) → ∀ x ∈ c.exceptionTable.toList, False) : ∀ (n : Nat) (v2 : Int32) (v4 : Int32) (v5 : Int32) (σ : Sta) (H : Heap) (locs : List Loc) (ls : Array Slot), f_X10_branch_116 n v2 v4 v5 σ = some o → va_P D vwCl (wd Y E σ 0 (LM ++ X)) H → va_S (AF E (LM ++ X).length s.heap.size) s.heap H locs → lv_has ls 6 [(0, .ref (E 0)), (2, .int v2), (4, .int v4), (5, .int v5)] → W p l e (rmw 113 4247 o) s m args below meth c H locs 0 0 (QwI below args s (LM ++ X) Y D E o) (F0 m 116 ls []) := by
  intro n
  induction n with
  | zero =>
    intro v2 v4 v5 σ H locs ls h hP hS hl
    exact nomatch (show (none : Option ((Int32 ⊕ (Int32 × Int32)) × Sta)) = some o from h)
  | succ n ih =>
    intro v2 v4 v5 σ H locs ls h hP hS hl
    rw [f_X10_branch_116] at h
    obtain ⟨hC, hb, hml, hr, hlk, hD, hSW⟩ := id hF
    have hx := hC.1
    refine lv_iload hx hb dX10_branch_116 (lv_at hl 3 rfl) ?_
    refine lv_bipush (v := 6) hx hb dX10_branch_118 (by decide) ?_
    refine lv_icmp_ge (tgt := 143) hx hb dX10_branch_120 (by decide) (fun c1 => ?_) (fun c1 => ?_)
    · have h := of_t h c1
      refine lv_aload_n hx hb dX10_branch_143 rfl (lv_at hl 0 rfl) ?_
      refine gf_X10_59 hC hb hP dX10_branch_144 ?_
      refine lv_iload hx hb dX10_branch_147 (lv_at hl 2 rfl) ?_
      refine lv_aload_n hx hb dX10_branch_149 rfl (lv_at hl 0 rfl) ?_
      refine gf_X10_325 hC hb hP dX10_branch_150 ?_
      obtain ⟨g2, h⟩ := of_gd h
      refine x_iast hX hC hb hP hD hS (lm_17 X) g2 dX10_branch_153 (fun H locs σ3 eσ3 hP hS => ?_)
      have h := of_lt h eσ3
      refine lv_aload_n hx hb dX10_branch_154 rfl (lv_at hl 0 rfl) ?_
      refine lv_bipush (v := 9) hx hb dX10_branch_155 (by decide) ?_
      obtain ⟨r4, σ5, g6, h⟩ := of_bnd h
      refine x_VI (As := [.int 9]) (rest := []) hF hl hP hS (c_X10_is hX g6) (cw_X10_238 hC rfl rfl ⟨Nat.le_of_ble_eq_true rfl, Nat.le_of_ble_eq_true rfl⟩) (lm_0 X) rfl rfl rfl (Nat.le_of_ble_eq_true rfl) dX10_branch_157 ⟨Nat.zero_le _, Nat.zero_le _⟩ (fun H locs hP hS => ?_)
      refine lv_if_eq (tgt := 195) hx hb dX10_branch_160 (by decide) (fun c7 => ?_) (fun c7 => ?_)
      · have h := of_t h c7
        exact t_X10_branch_195 hX  hF ht htab v2 σ5 _ _ _ h hP hS (lv_sub hl [0, 1] rfl)
      · have h := of_f h c7
        refine lv_aload_n hx hb dX10_branch_163 rfl (lv_at hl 0 rfl) ?_
        rcases of_bnw h with ⟨r8, σ9, g10, h⟩ | ⟨Xx, σ9, g10, rfl⟩
        rotate_left
        · exact x_VTw (As := []) (rest := []) hF hl hP hS (c_X10_take hX ht g10) (cw_X10_241 hC rfl rfl ⟨Nat.le_of_ble_eq_true rfl, Nat.le_of_ble_eq_true rfl⟩) (lm_0 X) rfl rfl rfl (Nat.le_of_ble_eq_true rfl) dX10_branch_164 ⟨Nat.le_refl _, Nat.le_refl _⟩ (htab _ _ rfl)
        refine x_VV (As := []) (rest := []) hF hl hP hS (c_X10_take hX ht g10) (cw_X10_241 hC rfl rfl ⟨Nat.le_of_ble_eq_true rfl, Nat.le_of_ble_eq_true rfl⟩) (lm_0 X) rfl rfl rfl (Nat.le_of_ble_eq_true rfl) dX10_branch_164 ⟨Nat.zero_le _, Nat.zero_le _⟩ (fun H locs hP hS => ?_)
        refine lv_aload_n hx hb dX10_branch_167 rfl (lv_at hl 0 rfl) ?_
        refine lv_iload hx hb dX10_branch_168 (lv_at hl 2 rfl) ?_
        rcases of_bnw h with ⟨r11, σ12, g13, h⟩ | ⟨Xx, σ12, g13, rfl⟩
        rotate_left
        · exact x_VTw (As := [.int v4]) (rest := []) hF hl hP hS (c_X10_setOne hX ht g13) (cw_X10_330 hC rfl rfl ⟨Nat.le_of_ble_eq_true rfl, Nat.le_of_ble_eq_true rfl⟩) (lm_0 X) rfl rfl rfl (Nat.le_of_ble_eq_true rfl) dX10_branch_170 ⟨Nat.le_refl _, Nat.le_refl _⟩ (htab _ _ rfl)
        refine x_VV (As := [.int v4]) (rest := []) hF hl hP hS (c_X10_setOne hX ht g13) (cw_X10_330 hC rfl rfl ⟨Nat.le_of_ble_eq_true rfl, Nat.le_of_ble_eq_true rfl⟩) (lm_0 X) rfl rfl rfl (Nat.le_of_ble_eq_true rfl) dX10_branch_170 ⟨Nat.zero_le _, Nat.zero_le _⟩ (fun H locs hP hS => ?_)
        exact t_X10_branch_173 hX  hF ht htab FU v2 v4 σ12 _ _ _ h hP hS (lv_sub hl [0, 1, 2] rfl)
    · have h := of_f h c1
      refine lv_aload_n hx hb dX10_branch_123 rfl (lv_at hl 0 rfl) ?_
      refine gf_X10_62 hC hb hP dX10_branch_124 ?_
      refine lv_iload hx hb dX10_branch_127 (lv_at hl 2 rfl) ?_
      refine lv_bipush (v := 6) hx hb dX10_branch_129 (by decide) ?_
      refine lv_imul hx hb dX10_branch_131 ?_
      refine lv_iload hx hb dX10_branch_132 (lv_at hl 3 rfl) ?_
      refine lv_iadd hx hb dX10_branch_134 ?_
      refine lv_iconst (v := -1) hx hb dX10_branch_135 (by decide) ?_
      obtain ⟨g14, h⟩ := of_gd h
      refine x_iast hX hC hb hP hD hS (lm_18 X) g14 dX10_branch_136 (fun H locs σ15 eσ15 hP hS => ?_)
      have h := of_lt h eσ15
      obtain ⟨x16, ex16⟩ : ∃ y : Int32, y = v5 + 1 := ⟨_, rfl⟩
      have h := of_lt h ex16
      refine lv_iinc (v := x16) (lv' := [(5, .int x16), (0, .ref (E 0)), (2, .int v2), (4, .int v4)]) hx hb dX10_branch_137 hl (k := 3) rfl (by rw [ex16]; rfl) (by decide) rfl (fun ls hl => ?_)
      refine lv_goto (tgt := 116) hx hb dX10_branch_140 (by decide) ?_
      exact ih v2 v4 x16 σ15 _ _ _ h hP hS (lv_sub hl [1, 2, 3, 0] rfl)

def f_X10_branch_110 (v2 : Int32) (s0 : Int32) (s1 : Int32) (σ : Sta) : Option ((Int32 ⊕ (Int32 × Int32)) × Sta) :=
  lt (s1 + s0) (fun x1 =>
  f_X10_branch_116 FU v2 x1 0 σ)
set_option maxHeartbeats 4000000 in
set_option maxRecDepth 100000 in
theorem t_X10_branch_110 {l : Launch} {D : va_G} {Y : CYs} {E : Nat → Nat} {X : List Dsc} (hX : Lok (LM ++ X)) {p : Program} {e : Env} {s : State} {m : MethodId} {args : Array Value} {below : List Frame} {meth : Method} {c : Code} (hF : Fr p s m args meth c RX10 cX10_branch 6 (some .int) D Y E (LM ++ X)) {o : (Int32 ⊕ (Int32 × Int32)) × Sta} (ht : l.stackTraces = false) (htab : ∀ X u, o = (.inr X, u) → ∀ x ∈ c.exceptionTable.toList, False) : ∀ (v2 : Int32) (s0 : Int32) (s1 : Int32) (σ : Sta) (H : Heap) (locs : List Loc) (ls : Array Slot), f_X10_branch_110 v2 s0 s1 σ = some o → va_P D vwCl (wd Y E σ 0 (LM ++ X)) H → va_S (AF E (LM ++ X).length s.heap.size) s.heap H locs → lv_has ls 6 [(0, .ref (E 0)), (2, .int v2)] → W p l e (rmw 113 4247 o) s m args below meth c H locs 0 0 (QwI below args s (LM ++ X) Y D E o) (F0 m 110 ls [.int s0, .int s1]) := by
  intro v2 s0 s1 σ H locs ls h hP hS hl
  unfold f_X10_branch_110 at h
  obtain ⟨hC, hb, hml, hr, hlk, hD, hSW⟩ := id hF
  have hx := hC.1
  refine lv_iadd hx hb dX10_branch_110 ?_
  refine lv_topi (fun x1 ex1 => ?_)
  have h := of_lt h ex1
  refine lv_istore (lv' := [(4, .int x1), (0, .ref (E 0)), (2, .int v2)]) hx hb dX10_branch_111 hl (by decide) rfl (fun ls hl => ?_)
  refine lv_iconst (v := 0) hx hb dX10_branch_113 (by decide) ?_
  refine lv_istore (lv' := [(5, .int 0), (4, .int x1), (0, .ref (E 0)), (2, .int v2)]) hx hb dX10_branch_114 hl (by decide) rfl (fun ls hl => ?_)
  exact t_X10_branch_116 hX  hF ht htab FU v2 x1 0 σ _ _ _ h hP hS (lv_sub hl [2, 3, 1, 0] rfl)

def f_X10_branch_27 (v1 : Int32) (v2 : Int32) (v3 : Int32) (s0 : Int32) (σ : Sta) : Option ((Int32 ⊕ (Int32 × Int32)) × Sta) :=
  bnw (f_X10_must s0 4 v3 σ) (fun _ σ2 =>
  bnd (f_X10_is 201 σ2) (fun r4 σ5 =>
  if r4 = 0 then
    bnr (f_X10_wrong σ5) (fun X22 => some (.inr X22, σ5))
  else
    if gI σ5 29 < 0 ∨ 1501 ≤ ((gI σ5 29).toNatClampNeg) then none else (
    bnd (f_X10_isIn (gJ σ5 5 ((gI σ5 29).toNatClampNeg)) 1 100 σ5) (fun r9 σ10 =>
    if gI σ10 29 < 0 ∨ 1501 ≤ ((gI σ10 29).toNatClampNeg) then none else (
    bnw (f_X10_must r9 5 (gA σ10 4 ((gI σ10 29).toNatClampNeg)) σ10) (fun _ σ14 =>
    if gI σ14 29 < 0 ∨ 1501 ≤ ((gI σ14 29).toNatClampNeg) then none else (
    lt (sI σ14 34 ((gJ σ14 5 ((gI σ14 29).toNatClampNeg)).toInt32)) (fun σ17 =>
    bnw (f_X10_take σ17) (fun _ σ19 =>
    if gI σ19 30 = 0 then
      f_X10_branch_110 v2 0 (v1 * 4) σ19
    else
      f_X10_branch_110 v2 v2 (v1 * 4) σ19)))))))))
set_option maxHeartbeats 4000000 in
set_option maxRecDepth 100000 in
theorem t_X10_branch_27 {l : Launch} {D : va_G} {Y : CYs} {E : Nat → Nat} {X : List Dsc} (hX : Lok (LM ++ X)) {p : Program} {e : Env} {s : State} {m : MethodId} {args : Array Value} {below : List Frame} {meth : Method} {c : Code} (hF : Fr p s m args meth c RX10 cX10_branch 6 (some .int) D Y E (LM ++ X)) {o : (Int32 ⊕ (Int32 × Int32)) × Sta} (ht : l.stackTraces = false) (htab : ∀ X u, o = (.inr X, u) → ∀ x ∈ c.exceptionTable.toList, False) : ∀ (v1 : Int32) (v2 : Int32) (v3 : Int32) (s0 : Int32) (σ : Sta) (H : Heap) (locs : List Loc) (ls : Array Slot), f_X10_branch_27 v1 v2 v3 s0 σ = some o → va_P D vwCl (wd Y E σ 0 (LM ++ X)) H → va_S (AF E (LM ++ X).length s.heap.size) s.heap H locs → lv_has ls 6 [(0, .ref (E 0)), (1, .int v1), (2, .int v2), (3, .int v3)] → W p l e (rmw 113 4247 o) s m args below meth c H locs 0 0 (QwI below args s (LM ++ X) Y D E o) (F0 m 27 ls [.int s0, .ref (E 0)]) := by
  intro v1 v2 v3 s0 σ H locs ls h hP hS hl
  unfold f_X10_branch_27 at h
  obtain ⟨hC, hb, hml, hr, hlk, hD, hSW⟩ := id hF
  have hx := hC.1
  refine lv_iconst (v := 4) hx hb dX10_branch_27 (by decide) ?_
  refine lv_iload_n hx hb dX10_branch_28 rfl (lv_at hl 3 rfl) ?_
  rcases of_bnw h with ⟨r1, σ2, g3, h⟩ | ⟨Xx, σ2, g3, rfl⟩
  rotate_left
  · exact x_VTw (As := [.int s0, .int 4, .int v3]) (rest := []) hF hl hP hS (c_X10_must hX ht g3) (cw_X10_288 hC rfl rfl ⟨Nat.le_of_ble_eq_true rfl, Nat.le_of_ble_eq_true rfl⟩) (lm_0 X) rfl rfl rfl (Nat.le_of_ble_eq_true rfl) dX10_branch_29 ⟨Nat.le_refl _, Nat.le_refl _⟩ (htab _ _ rfl)
  refine x_VV (As := [.int s0, .int 4, .int v3]) (rest := []) hF hl hP hS (c_X10_must hX ht g3) (cw_X10_288 hC rfl rfl ⟨Nat.le_of_ble_eq_true rfl, Nat.le_of_ble_eq_true rfl⟩) (lm_0 X) rfl rfl rfl (Nat.le_of_ble_eq_true rfl) dX10_branch_29 ⟨Nat.zero_le _, Nat.zero_le _⟩ (fun H locs hP hS => ?_)
  refine lv_aload_n hx hb dX10_branch_32 rfl (lv_at hl 0 rfl) ?_
  refine lv_sipush (v := 201) hx hb dX10_branch_33 (by decide) ?_
  obtain ⟨r4, σ5, g6, h⟩ := of_bnd h
  refine x_VI (As := [.int 201]) (rest := []) hF hl hP hS (c_X10_is hX g6) (cw_X10_238 hC rfl rfl ⟨Nat.le_of_ble_eq_true rfl, Nat.le_of_ble_eq_true rfl⟩) (lm_0 X) rfl rfl rfl (Nat.le_of_ble_eq_true rfl) dX10_branch_36 ⟨Nat.zero_le _, Nat.zero_le _⟩ (fun H locs hP hS => ?_)
  refine lv_if_ne (tgt := 47) hx hb dX10_branch_39 (by decide) (fun c7 => ?_) (fun c7 => ?_)
  · have h := of_f h c7
    refine lv_aload_n hx hb dX10_branch_47 rfl (lv_at hl 0 rfl) ?_
    refine lv_aload_n hx hb dX10_branch_48 rfl (lv_at hl 0 rfl) ?_
    refine gf_X10_23 hC hb hP dX10_branch_49 ?_
    refine lv_aload_n hx hb dX10_branch_52 rfl (lv_at hl 0 rfl) ?_
    refine gf_X10_219 hC hb hP dX10_branch_53 ?_
    obtain ⟨g8, h⟩ := of_gd h
    refine x_lald hC hb hP (lm_5 X) g8 dX10_branch_56 ?_
    refine lv_lconst (v := 1) hx hb dX10_branch_57 (by decide) ?_
    refine lv_ldc2 (v := 100) hx hb hC.2.2.1 (hC.2.1 (Cond.constantLong RX10 328 100) (gw_t (tb7 (List.mem_of_getElem? (i := 177) rfl)) rfl)) dX10_branch_58 ?_
    obtain ⟨r9, σ10, g11, h⟩ := of_bnd h
    refine x_SI (As := [.long (gJ σ5 5 ((gI σ5 29).toNatClampNeg)), .long 1, .long 100]) (rest := [.ref (E 0)]) hF hl hP hS (c_X10_isIn hX g11) (cw_X10_154 hC rfl rfl ⟨Nat.le_of_ble_eq_true rfl, Nat.le_of_ble_eq_true rfl⟩) rfl rfl (Nat.le_of_ble_eq_true rfl) dX10_branch_61 ⟨Nat.zero_le _, Nat.zero_le _⟩ (fun H locs hP hS => ?_)
    refine lv_iconst (v := 5) hx hb dX10_branch_64 (by decide) ?_
    refine lv_aload_n hx hb dX10_branch_65 rfl (lv_at hl 0 rfl) ?_
    refine gf_X10_20 hC hb hP dX10_branch_66 ?_
    refine lv_aload_n hx hb dX10_branch_69 rfl (lv_at hl 0 rfl) ?_
    refine gf_X10_219 hC hb hP dX10_branch_70 ?_
    obtain ⟨g12, h⟩ := of_gd h
    refine x_iald hC hb hP (lm_4 X) g12 dX10_branch_73 ?_
    rcases of_bnw h with ⟨r13, σ14, g15, h⟩ | ⟨Xx, σ14, g15, rfl⟩
    rotate_left
    · exact x_VTw (As := [.int r9, .int 5, .int (gA σ10 4 ((gI σ10 29).toNatClampNeg))]) (rest := []) hF hl hP hS (c_X10_must hX ht g15) (cw_X10_288 hC rfl rfl ⟨Nat.le_of_ble_eq_true rfl, Nat.le_of_ble_eq_true rfl⟩) (lm_0 X) rfl rfl rfl (Nat.le_of_ble_eq_true rfl) dX10_branch_74 ⟨Nat.le_refl _, Nat.le_refl _⟩ (htab _ _ rfl)
    refine x_VV (As := [.int r9, .int 5, .int (gA σ10 4 ((gI σ10 29).toNatClampNeg))]) (rest := []) hF hl hP hS (c_X10_must hX ht g15) (cw_X10_288 hC rfl rfl ⟨Nat.le_of_ble_eq_true rfl, Nat.le_of_ble_eq_true rfl⟩) (lm_0 X) rfl rfl rfl (Nat.le_of_ble_eq_true rfl) dX10_branch_74 ⟨Nat.zero_le _, Nat.zero_le _⟩ (fun H locs hP hS => ?_)
    refine lv_aload_n hx hb dX10_branch_77 rfl (lv_at hl 0 rfl) ?_
    refine lv_aload_n hx hb dX10_branch_78 rfl (lv_at hl 0 rfl) ?_
    refine gf_X10_23 hC hb hP dX10_branch_79 ?_
    refine lv_aload_n hx hb dX10_branch_82 rfl (lv_at hl 0 rfl) ?_
    refine gf_X10_219 hC hb hP dX10_branch_83 ?_
    obtain ⟨g16, h⟩ := of_gd h
    refine x_lald hC hb hP (lm_5 X) g16 dX10_branch_86 ?_
    refine lv_l2i (v := (gJ σ14 5 ((gI σ14 29).toNatClampNeg)).toInt32) hx hb dX10_branch_87 rfl ?_
    refine pf_X10_325 hX hC hb hP hD hS dX10_branch_88 (fun H locs σ17 eσ17 hP hS => ?_)
    have h := of_lt h eσ17
    refine lv_aload_n hx hb dX10_branch_91 rfl (lv_at hl 0 rfl) ?_
    rcases of_bnw h with ⟨r18, σ19, g20, h⟩ | ⟨Xx, σ19, g20, rfl⟩
    rotate_left
    · exact x_VTw (As := []) (rest := []) hF hl hP hS (c_X10_take hX ht g20) (cw_X10_241 hC rfl rfl ⟨Nat.le_of_ble_eq_true rfl, Nat.le_of_ble_eq_true rfl⟩) (lm_0 X) rfl rfl rfl (Nat.le_of_ble_eq_true rfl) dX10_branch_92 ⟨Nat.le_refl _, Nat.le_refl _⟩ (htab _ _ rfl)
    refine x_VV (As := []) (rest := []) hF hl hP hS (c_X10_take hX ht g20) (cw_X10_241 hC rfl rfl ⟨Nat.le_of_ble_eq_true rfl, Nat.le_of_ble_eq_true rfl⟩) (lm_0 X) rfl rfl rfl (Nat.le_of_ble_eq_true rfl) dX10_branch_92 ⟨Nat.zero_le _, Nat.zero_le _⟩ (fun H locs hP hS => ?_)
    refine lv_iload_n hx hb dX10_branch_95 rfl (lv_at hl 1 rfl) ?_
    refine lv_iconst (v := 4) hx hb dX10_branch_96 (by decide) ?_
    refine lv_imul hx hb dX10_branch_97 ?_
    refine lv_aload_n hx hb dX10_branch_98 rfl (lv_at hl 0 rfl) ?_
    refine gf_X10_227 hC hb hP dX10_branch_99 ?_
    refine lv_if_eq (tgt := 109) hx hb dX10_branch_102 (by decide) (fun c21 => ?_) (fun c21 => ?_)
    · have h := of_t h c21
      refine lv_iconst (v := 0) hx hb dX10_branch_109 (by decide) ?_
      exact t_X10_branch_110 hX  hF ht htab v2 0 (v1 * 4) σ19 _ _ _ h hP hS (lv_sub hl [0, 2] rfl)
    · have h := of_f h c21
      refine lv_iload_n hx hb dX10_branch_105 rfl (lv_at hl 2 rfl) ?_
      refine lv_goto (tgt := 110) hx hb dX10_branch_106 (by decide) ?_
      exact t_X10_branch_110 hX  hF ht htab v2 v2 (v1 * 4) σ19 _ _ _ h hP hS (lv_sub hl [0, 2] rfl)
  · have h := of_t h c7
    refine lv_aload_n hx hb dX10_branch_42 rfl (lv_at hl 0 rfl) ?_
    obtain ⟨X22, g23, h⟩ := of_bnr h
    cases h
    refine x_VR (As := []) (rest := []) hF hl hP hS (c_X10_wrong hX ht g23) (cw_X10_234 hC rfl rfl ⟨Nat.le_of_ble_eq_true rfl, Nat.le_of_ble_eq_true rfl⟩) (lm_0 X) rfl rfl rfl (Nat.le_of_ble_eq_true rfl) dX10_branch_43 ⟨Nat.le_of_ble_eq_true rfl, Nat.le_of_ble_eq_true rfl⟩ (fun wa24 H locs hP hS hWwa24 => ?_)
    exact x_throwW hF hP hS hWwa24 (htab _ _ rfl) dX10_branch_46

def f_X10_branch (a1 : Int32) (a2 : Int32) (σ : Sta) : Option ((Int32 ⊕ (Int32 × Int32)) × Sta) :=
  if gI σ 29 < 0 ∨ 1501 ≤ ((gI σ 29).toNatClampNeg) then none else (
  lt (gA σ 4 ((gI σ 29).toNatClampNeg)) (fun x2 =>
  bnw (f_X10_take_ 8 σ) (fun _ σ4 =>
  if 4 ≤ a2 then
    f_X10_branch_27 a1 a2 x2 0 σ4
  else
    f_X10_branch_27 a1 a2 x2 1 σ4)))
set_option maxHeartbeats 4000000 in
set_option maxRecDepth 100000 in
theorem c_X10_branch {l : Launch} {D : va_G} {Y : CYs} {E : Nat → Nat} {X : List Dsc} (hX : Lok (LM ++ X)) {a1 : Int32} {a2 : Int32} (ht : l.stackTraces = false) {σ : Sta} {o : (Int32 ⊕ (Int32 × Int32)) × Sta} (h : f_X10_branch a1 a2 σ = some o) : MWI l yX10_branch (Cond.code yX10_branch cX10_branch 6 (some .int) :: gW) 113 4247 (LM ++ X) Y D E [.ref (E 0), .int a1, .int a2] σ o := by
  refine Met_ofWI (by decide) (Nat.le_of_ble_eq_true rfl) (fun p e s m args below meth c hF hP htab ls hl => ?_)
  have hS : va_S (AF E (LM ++ X).length s.heap.size) s.heap s.heap [] := va_S.rf
  have hl : lv_has ls 6 [(0, .ref (E 0)), (1, .int a1), (2, .int a2)] := hl
  show W p l e (rmw 113 4247 o) s m args below meth c s.heap [] 0 0 (QwI below args s (LM ++ X) Y D E o) (F0 m 0 ls [])
  unfold f_X10_branch at h
  obtain ⟨hC, hb, hml, hr, hlk, hD, hSW⟩ := id hF
  have hx := hC.1
  refine lv_aload_n hx hb dX10_branch_0 rfl (lv_at hl 0 rfl) ?_
  refine gf_X10_20 hC hb hP dX10_branch_1 ?_
  refine lv_aload_n hx hb dX10_branch_4 rfl (lv_at hl 0 rfl) ?_
  refine gf_X10_219 hC hb hP dX10_branch_5 ?_
  obtain ⟨g1, h⟩ := of_gd h
  refine x_iald hC hb hP (lm_4 X) g1 dX10_branch_8 ?_
  refine lv_topi (fun x2 ex2 => ?_)
  have h := of_lt h ex2
  refine lv_istore_n (lv' := [(3, .int x2), (0, .ref (E 0)), (1, .int a1), (2, .int a2)]) hx hb dX10_branch_9 rfl hl (by decide) rfl (fun ls hl => ?_)
  refine lv_aload_n hx hb dX10_branch_10 rfl (lv_at hl 1 rfl) ?_
  refine lv_bipush (v := 8) hx hb dX10_branch_11 (by decide) ?_
  rcases of_bnw h with ⟨r3, σ4, g5, h⟩ | ⟨Xx, σ4, g5, rfl⟩
  rotate_left
  · exact x_VTw (As := [.int 8]) (rest := []) hF hl hP hS (c_X10_take_ hX ht g5) (cw_X10_286 hC rfl rfl ⟨Nat.le_of_ble_eq_true rfl, Nat.le_of_ble_eq_true rfl⟩) (lm_0 X) rfl rfl rfl (Nat.le_of_ble_eq_true rfl) dX10_branch_13 ⟨Nat.le_refl _, Nat.le_refl _⟩ (htab _ _ rfl)
  refine x_VV (As := [.int 8]) (rest := []) hF hl hP hS (c_X10_take_ hX ht g5) (cw_X10_286 hC rfl rfl ⟨Nat.le_of_ble_eq_true rfl, Nat.le_of_ble_eq_true rfl⟩) (lm_0 X) rfl rfl rfl (Nat.le_of_ble_eq_true rfl) dX10_branch_13 ⟨Nat.zero_le _, Nat.zero_le _⟩ (fun H locs hP hS => ?_)
  refine lv_aload_n hx hb dX10_branch_16 rfl (lv_at hl 1 rfl) ?_
  refine lv_iload_n hx hb dX10_branch_17 rfl (lv_at hl 3 rfl) ?_
  refine lv_iconst (v := 4) hx hb dX10_branch_18 (by decide) ?_
  refine lv_icmp_ge (tgt := 26) hx hb dX10_branch_19 (by decide) (fun c6 => ?_) (fun c6 => ?_)
  · have h := of_t h c6
    refine lv_iconst (v := 0) hx hb dX10_branch_26 (by decide) ?_
    exact t_X10_branch_27 hX  hF ht htab a1 a2 x2 0 σ4 _ _ _ h hP hS (lv_sub hl [1, 2, 3, 0] rfl)
  · have h := of_f h c6
    refine lv_iconst (v := 1) hx hb dX10_branch_22 (by decide) ?_
    refine lv_goto (tgt := 27) hx hb dX10_branch_23 (by decide) ?_
    exact t_X10_branch_27 hX  hF ht htab a1 a2 x2 1 σ4 _ _ _ h hP hS (lv_sub hl [1, 2, 3, 0] rfl)

def f_X10_command_107 (v1 : Int32) (v2 : Int64) (v4 : Int32) (v5 : Int32) (v6 : Int32) (s0 : Int32) (σ : Sta) : Option ((Unit ⊕ (Int32 × Int32)) × Sta) :=
  bnw (f_X10_must s0 6 v1 σ) (fun _ σ2 =>
  if gI σ2 30 = 0 then
    some (.inl (), σ2)
  else
    if v5 < 0 ∨ 16 ≤ (v5.toNatClampNeg) then none else (
    lt (sJ σ2 13 (vp_updL (gJ σ2 13) (v5.toNatClampNeg) v2)) (fun σ6 =>
    if v5 < 0 ∨ 16 ≤ (v5.toNatClampNeg) then none else (
    lt (sA σ6 14 (upd (gA σ6 14) (v5.toNatClampNeg) v1)) (fun σ8 =>
    if v5 < 0 ∨ 16 ≤ (v5.toNatClampNeg) then none else (
    lt (sA σ8 15 (upd (gA σ8 15) (v5.toNatClampNeg) v4)) (fun σ10 =>
    if v5 < 0 ∨ 16 ≤ (v5.toNatClampNeg) then none else (
    lt (sA σ10 16 (upd (gA σ10 16) (v5.toNatClampNeg) v6)) (fun σ12 =>
    lt (sI σ12 19 ((gI σ12 19) + 1)) (fun σ13 =>
    some (.inl (), σ13)))))))))))
set_option maxHeartbeats 4000000 in
set_option maxRecDepth 100000 in
theorem t_X10_command_107 {l : Launch} {D : va_G} {Y : CYs} {E : Nat → Nat} {X : List Dsc} (hX : Lok (LM ++ X)) {p : Program} {e : Env} {s : State} {m : MethodId} {args : Array Value} {below : List Frame} {meth : Method} {c : Code} (hF : Fr p s m args meth c RX10 cX10_command 8 none D Y E (LM ++ X)) {o : (Unit ⊕ (Int32 × Int32)) × Sta} (ht : l.stackTraces = false) (htab : ∀ X u, o = (.inr X, u) → ∀ x ∈ c.exceptionTable.toList, False) : ∀ (v1 : Int32) (v2 : Int64) (v4 : Int32) (v5 : Int32) (v6 : Int32) (s0 : Int32) (σ : Sta) (H : Heap) (locs : List Loc) (ls : Array Slot), f_X10_command_107 v1 v2 v4 v5 v6 s0 σ = some o → va_P D vwCl (wd Y E σ 0 (LM ++ X)) H → va_S (AF E (LM ++ X).length s.heap.size) s.heap H locs → lv_has ls 8 [(0, .ref (E 0)), (1, .int v1), (2, .long v2), (4, .int v4), (5, .int v5), (6, .int v6)] → W p l e (rmw 114 4272 o) s m args below meth c H locs 0 0 (QwV below args s (LM ++ X) Y D E o) (F0 m 107 ls [.int s0, .ref (E 0)]) := by
  intro v1 v2 v4 v5 v6 s0 σ H locs ls h hP hS hl
  unfold f_X10_command_107 at h
  obtain ⟨hC, hb, hml, hr, hlk, hD, hSW⟩ := id hF
  have hx := hC.1
  refine lv_bipush (v := 6) hx hb dX10_command_107 (by decide) ?_
  refine lv_iload_n hx hb dX10_command_109 rfl (lv_at hl 1 rfl) ?_
  rcases of_bnw h with ⟨r1, σ2, g3, h⟩ | ⟨Xx, σ2, g3, rfl⟩
  rotate_left
  · exact x_VTw (As := [.int s0, .int 6, .int v1]) (rest := []) hF hl hP hS (c_X10_must hX ht g3) (cw_X10_288 hC rfl rfl ⟨Nat.le_of_ble_eq_true rfl, Nat.le_of_ble_eq_true rfl⟩) (lm_0 X) rfl rfl rfl (Nat.le_of_ble_eq_true rfl) dX10_command_110 ⟨Nat.le_refl _, Nat.le_refl _⟩ (htab _ _ rfl)
  refine x_VV (As := [.int s0, .int 6, .int v1]) (rest := []) hF hl hP hS (c_X10_must hX ht g3) (cw_X10_288 hC rfl rfl ⟨Nat.le_of_ble_eq_true rfl, Nat.le_of_ble_eq_true rfl⟩) (lm_0 X) rfl rfl rfl (Nat.le_of_ble_eq_true rfl) dX10_command_110 ⟨Nat.zero_le _, Nat.zero_le _⟩ (fun H locs hP hS => ?_)
  refine lv_aload_n hx hb dX10_command_113 rfl (lv_at hl 0 rfl) ?_
  refine gf_X10_227 hC hb hP dX10_command_114 ?_
  refine lv_if_ne (tgt := 121) hx hb dX10_command_117 (by decide) (fun c4 => ?_) (fun c4 => ?_)
  · have h := of_f h c4
    refine lv_aload_n hx hb dX10_command_121 rfl (lv_at hl 0 rfl) ?_
    refine gf_X10_47 hC hb hP dX10_command_122 ?_
    refine lv_iload hx hb dX10_command_125 (lv_at hl 4 rfl) ?_
    refine lv_lload_n hx hb dX10_command_127 rfl (lv_at hl 2 rfl) ?_
    obtain ⟨g5, h⟩ := of_gd h
    refine x_last hX hC hb hP hD hS (lm_13 X) g5 dX10_command_128 (fun H locs σ6 eσ6 hP hS => ?_)
    have h := of_lt h eσ6
    refine lv_aload_n hx hb dX10_command_129 rfl (lv_at hl 0 rfl) ?_
    refine gf_X10_50 hC hb hP dX10_command_130 ?_
    refine lv_iload hx hb dX10_command_133 (lv_at hl 4 rfl) ?_
    refine lv_iload_n hx hb dX10_command_135 rfl (lv_at hl 1 rfl) ?_
    obtain ⟨g7, h⟩ := of_gd h
    refine x_iast hX hC hb hP hD hS (lm_14 X) g7 dX10_command_136 (fun H locs σ8 eσ8 hP hS => ?_)
    have h := of_lt h eσ8
    refine lv_aload_n hx hb dX10_command_137 rfl (lv_at hl 0 rfl) ?_
    refine gf_X10_53 hC hb hP dX10_command_138 ?_
    refine lv_iload hx hb dX10_command_141 (lv_at hl 4 rfl) ?_
    refine lv_iload hx hb dX10_command_143 (lv_at hl 3 rfl) ?_
    obtain ⟨g9, h⟩ := of_gd h
    refine x_iast hX hC hb hP hD hS (lm_15 X) g9 dX10_command_145 (fun H locs σ10 eσ10 hP hS => ?_)
    have h := of_lt h eσ10
    refine lv_aload_n hx hb dX10_command_146 rfl (lv_at hl 0 rfl) ?_
    refine gf_X10_56 hC hb hP dX10_command_147 ?_
    refine lv_iload hx hb dX10_command_150 (lv_at hl 4 rfl) ?_
    refine lv_iload hx hb dX10_command_152 (lv_at hl 5 rfl) ?_
    obtain ⟨g11, h⟩ := of_gd h
    refine x_iast hX hC hb hP hD hS (lm_16 X) g11 dX10_command_154 (fun H locs σ12 eσ12 hP hS => ?_)
    have h := of_lt h eσ12
    refine lv_aload_n hx hb dX10_command_155 rfl (lv_at hl 0 rfl) ?_
    refine lv_dup hx hb dX10_command_156 rfl ?_
    refine gf_X10_207 hC hb hP dX10_command_157 ?_
    refine lv_iconst (v := 1) hx hb dX10_command_160 (by decide) ?_
    refine lv_iadd hx hb dX10_command_161 ?_
    refine pf_X10_207 hX hC hb hP hD hS dX10_command_162 (fun H locs σ13 eσ13 hP hS => ?_)
    have h := of_lt h eσ13
    exact x_vretW hF hP hS h dX10_command_165
  · have h := of_t h c4
    exact x_vretW hF hP hS h dX10_command_120

def f_X10_command_59 : Nat → Int32 → Int64 → Int32 → Int32 → Int32 → Int32 → Sta → Option ((Unit ⊕ (Int32 × Int32)) × Sta)
  | 0, _, _, _, _, _, _, _ => none
  | n + 1, v1, v2, v4, v5, v6, v7, σ => bnd (f_X10_is 10 σ) (fun r1 σ2 =>
    if r1 = 0 then
      if v7 = 100 then
        f_X10_command_107 v1 v2 v4 v5 v6 1 σ2
      else
        f_X10_command_107 v1 v2 v4 v5 v6 0 σ2
    else
      bnw (f_X10_take σ2) (fun _ σ7 =>
      bnw (f_X10_branch v5 v6 σ7) (fun r9 σ10 =>
      lt (v7 + (gI σ10 34)) (fun x12 =>
      f_X10_command_59 n v1 v2 v4 v5 r9 x12 σ10))))
set_option maxHeartbeats 4000000 in
set_option maxRecDepth 100000 in
theorem t_X10_command_59 {l : Launch} {D : va_G} {Y : CYs} {E : Nat → Nat} {X : List Dsc} (hX : Lok (LM ++ X)) {p : Program} {e : Env} {s : State} {m : MethodId} {args : Array Value} {below : List Frame} {meth : Method} {c : Code} (hF : Fr p s m args meth c RX10 cX10_command 8 none D Y E (LM ++ X)) {o : (Unit ⊕ (Int32 × Int32)) × Sta} (ht : l.stackTraces = false) (htab : ∀ X u, o = (.inr X, u) → ∀ x ∈ c.exceptionTable.toList, False) : ∀ (n : Nat) (v1 : Int32) (v2 : Int64) (v4 : Int32) (v5 : Int32) (v6 : Int32) (v7 : Int32) (σ : Sta) (H : Heap) (locs : List Loc) (ls : Array Slot), f_X10_command_59 n v1 v2 v4 v5 v6 v7 σ = some o → va_P D vwCl (wd Y E σ 0 (LM ++ X)) H → va_S (AF E (LM ++ X).length s.heap.size) s.heap H locs → lv_has ls 8 [(0, .ref (E 0)), (1, .int v1), (2, .long v2), (4, .int v4), (5, .int v5), (6, .int v6), (7, .int v7)] → W p l e (rmw 114 4272 o) s m args below meth c H locs 0 0 (QwV below args s (LM ++ X) Y D E o) (F0 m 59 ls []) := by
  intro n
  induction n with
  | zero =>
    intro v1 v2 v4 v5 v6 v7 σ H locs ls h hP hS hl
    exact nomatch (show (none : Option ((Unit ⊕ (Int32 × Int32)) × Sta)) = some o from h)
  | succ n ih =>
    intro v1 v2 v4 v5 v6 v7 σ H locs ls h hP hS hl
    rw [f_X10_command_59] at h
    obtain ⟨hC, hb, hml, hr, hlk, hD, hSW⟩ := id hF
    have hx := hC.1
    refine lv_aload_n hx hb dX10_command_59 rfl (lv_at hl 0 rfl) ?_
    refine lv_bipush (v := 10) hx hb dX10_command_60 (by decide) ?_
    obtain ⟨r1, σ2, g3, h⟩ := of_bnd h
    refine x_VI (As := [.int 10]) (rest := []) hF hl hP hS (c_X10_is hX g3) (cw_X10_238 hC rfl rfl ⟨Nat.le_of_ble_eq_true rfl, Nat.le_of_ble_eq_true rfl⟩) (lm_0 X) rfl rfl rfl (Nat.le_of_ble_eq_true rfl) dX10_command_62 ⟨Nat.zero_le _, Nat.zero_le _⟩ (fun H locs hP hS => ?_)
    refine lv_if_eq (tgt := 94) hx hb dX10_command_65 (by decide) (fun c4 => ?_) (fun c4 => ?_)
    · have h := of_t h c4
      refine lv_aload_n hx hb dX10_command_94 rfl (lv_at hl 0 rfl) ?_
      refine lv_iload hx hb dX10_command_95 (lv_at hl 6 rfl) ?_
      refine lv_bipush (v := 100) hx hb dX10_command_97 (by decide) ?_
      refine lv_icmp_ne (tgt := 106) hx hb dX10_command_99 (by decide) (fun c5 => ?_) (fun c5 => ?_)
      · have h := of_f h c5
        refine lv_iconst (v := 0) hx hb dX10_command_106 (by decide) ?_
        exact t_X10_command_107 hX  hF ht htab v1 v2 v4 v5 v6 0 σ2 _ _ _ h hP hS (lv_sub hl [0, 1, 2, 3, 4, 5] rfl)
      · have h := of_t h c5
        refine lv_iconst (v := 1) hx hb dX10_command_102 (by decide) ?_
        refine lv_goto (tgt := 107) hx hb dX10_command_103 (by decide) ?_
        exact t_X10_command_107 hX  hF ht htab v1 v2 v4 v5 v6 1 σ2 _ _ _ h hP hS (lv_sub hl [0, 1, 2, 3, 4, 5] rfl)
    · have h := of_f h c4
      refine lv_aload_n hx hb dX10_command_68 rfl (lv_at hl 0 rfl) ?_
      rcases of_bnw h with ⟨r6, σ7, g8, h⟩ | ⟨Xx, σ7, g8, rfl⟩
      rotate_left
      · exact x_VTw (As := []) (rest := []) hF hl hP hS (c_X10_take hX ht g8) (cw_X10_241 hC rfl rfl ⟨Nat.le_of_ble_eq_true rfl, Nat.le_of_ble_eq_true rfl⟩) (lm_0 X) rfl rfl rfl (Nat.le_of_ble_eq_true rfl) dX10_command_69 ⟨Nat.le_refl _, Nat.le_refl _⟩ (htab _ _ rfl)
      refine x_VV (As := []) (rest := []) hF hl hP hS (c_X10_take hX ht g8) (cw_X10_241 hC rfl rfl ⟨Nat.le_of_ble_eq_true rfl, Nat.le_of_ble_eq_true rfl⟩) (lm_0 X) rfl rfl rfl (Nat.le_of_ble_eq_true rfl) dX10_command_69 ⟨Nat.zero_le _, Nat.zero_le _⟩ (fun H locs hP hS => ?_)
      refine lv_aload_n hx hb dX10_command_72 rfl (lv_at hl 0 rfl) ?_
      refine lv_iload hx hb dX10_command_73 (lv_at hl 4 rfl) ?_
      refine lv_iload hx hb dX10_command_75 (lv_at hl 5 rfl) ?_
      rcases of_bnw h with ⟨r9, σ10, g11, h⟩ | ⟨Xx, σ10, g11, rfl⟩
      rotate_left
      · exact x_VTw (As := [.int v5, .int v6]) (rest := []) hF hl hP hS (c_X10_branch hX ht g11) (cw_X10_322 hC rfl rfl ⟨Nat.le_of_ble_eq_true rfl, Nat.le_of_ble_eq_true rfl⟩) (lm_0 X) rfl rfl rfl (Nat.le_of_ble_eq_true rfl) dX10_command_77 ⟨Nat.le_refl _, Nat.le_refl _⟩ (htab _ _ rfl)
      refine x_VI (As := [.int v5, .int v6]) (rest := []) hF hl hP hS (c_X10_branch hX ht g11) (cw_X10_322 hC rfl rfl ⟨Nat.le_of_ble_eq_true rfl, Nat.le_of_ble_eq_true rfl⟩) (lm_0 X) rfl rfl rfl (Nat.le_of_ble_eq_true rfl) dX10_command_77 ⟨Nat.zero_le _, Nat.zero_le _⟩ (fun H locs hP hS => ?_)
      refine lv_istore (lv' := [(6, .int r9), (0, .ref (E 0)), (1, .int v1), (2, .long v2), (4, .int v4), (5, .int v5), (7, .int v7)]) hx hb dX10_command_80 hl (by decide) rfl (fun ls hl => ?_)
      refine lv_iload hx hb dX10_command_82 (lv_at hl 6 rfl) ?_
      refine lv_aload_n hx hb dX10_command_84 rfl (lv_at hl 1 rfl) ?_
      refine gf_X10_325 hC hb hP dX10_command_85 ?_
      refine lv_iadd hx hb dX10_command_88 ?_
      refine lv_topi (fun x12 ex12 => ?_)
      have h := of_lt h ex12
      refine lv_istore (lv' := [(7, .int x12), (6, .int r9), (0, .ref (E 0)), (1, .int v1), (2, .long v2), (4, .int v4), (5, .int v5)]) hx hb dX10_command_89 hl (by decide) rfl (fun ls hl => ?_)
      refine lv_goto (tgt := 59) hx hb dX10_command_91 (by decide) ?_
      exact ih v1 v2 v4 v5 r9 x12 σ10 _ _ _ h hP hS (lv_sub hl [2, 3, 4, 5, 6, 1, 0] rfl)

def f_X10_command_42 (v1 : Int32) (v2 : Int64) (v4 : Int32) (s0 : Int32) (σ : Sta) : Option ((Unit ⊕ (Int32 × Int32)) × Sta) :=
  bnw (f_X10_branch s0 0 σ) (fun r1 σ2 =>
  lt (gI σ2 34) (fun x4 =>
  f_X10_command_59 FU v1 v2 v4 s0 r1 x4 σ2))
set_option maxHeartbeats 4000000 in
set_option maxRecDepth 100000 in
theorem t_X10_command_42 {l : Launch} {D : va_G} {Y : CYs} {E : Nat → Nat} {X : List Dsc} (hX : Lok (LM ++ X)) {p : Program} {e : Env} {s : State} {m : MethodId} {args : Array Value} {below : List Frame} {meth : Method} {c : Code} (hF : Fr p s m args meth c RX10 cX10_command 8 none D Y E (LM ++ X)) {o : (Unit ⊕ (Int32 × Int32)) × Sta} (ht : l.stackTraces = false) (htab : ∀ X u, o = (.inr X, u) → ∀ x ∈ c.exceptionTable.toList, False) : ∀ (v1 : Int32) (v2 : Int64) (v4 : Int32) (s0 : Int32) (σ : Sta) (H : Heap) (locs : List Loc) (ls : Array Slot), f_X10_command_42 v1 v2 v4 s0 σ = some o → va_P D vwCl (wd Y E σ 0 (LM ++ X)) H → va_S (AF E (LM ++ X).length s.heap.size) s.heap H locs → lv_has ls 8 [(0, .ref (E 0)), (1, .int v1), (2, .long v2), (4, .int v4)] → W p l e (rmw 114 4272 o) s m args below meth c H locs 0 0 (QwV below args s (LM ++ X) Y D E o) (F0 m 42 ls [.int s0]) := by
  intro v1 v2 v4 s0 σ H locs ls h hP hS hl
  unfold f_X10_command_42 at h
  obtain ⟨hC, hb, hml, hr, hlk, hD, hSW⟩ := id hF
  have hx := hC.1
  refine lv_istore (lv' := [(5, .int s0), (0, .ref (E 0)), (1, .int v1), (2, .long v2), (4, .int v4)]) hx hb dX10_command_42 hl (by decide) rfl (fun ls hl => ?_)
  refine lv_aload_n hx hb dX10_command_44 rfl (lv_at hl 1 rfl) ?_
  refine lv_iload hx hb dX10_command_45 (lv_at hl 0 rfl) ?_
  refine lv_iconst (v := 0) hx hb dX10_command_47 (by decide) ?_
  rcases of_bnw h with ⟨r1, σ2, g3, h⟩ | ⟨Xx, σ2, g3, rfl⟩
  rotate_left
  · exact x_VTw (As := [.int s0, .int 0]) (rest := []) hF hl hP hS (c_X10_branch hX ht g3) (cw_X10_322 hC rfl rfl ⟨Nat.le_of_ble_eq_true rfl, Nat.le_of_ble_eq_true rfl⟩) (lm_0 X) rfl rfl rfl (Nat.le_of_ble_eq_true rfl) dX10_command_48 ⟨Nat.le_refl _, Nat.le_refl _⟩ (htab _ _ rfl)
  refine x_VI (As := [.int s0, .int 0]) (rest := []) hF hl hP hS (c_X10_branch hX ht g3) (cw_X10_322 hC rfl rfl ⟨Nat.le_of_ble_eq_true rfl, Nat.le_of_ble_eq_true rfl⟩) (lm_0 X) rfl rfl rfl (Nat.le_of_ble_eq_true rfl) dX10_command_48 ⟨Nat.zero_le _, Nat.zero_le _⟩ (fun H locs hP hS => ?_)
  refine lv_istore (lv' := [(6, .int r1), (5, .int s0), (0, .ref (E 0)), (1, .int v1), (2, .long v2), (4, .int v4)]) hx hb dX10_command_51 hl (by decide) rfl (fun ls hl => ?_)
  refine lv_aload_n hx hb dX10_command_53 rfl (lv_at hl 2 rfl) ?_
  refine gf_X10_325 hC hb hP dX10_command_54 ?_
  refine lv_topi (fun x4 ex4 => ?_)
  have h := of_lt h ex4
  refine lv_istore (lv' := [(7, .int x4), (6, .int r1), (5, .int s0), (0, .ref (E 0)), (1, .int v1), (2, .long v2), (4, .int v4)]) hx hb dX10_command_57 hl (by decide) rfl (fun ls hl => ?_)
  exact t_X10_command_59 hX  hF ht htab FU v1 v2 v4 s0 r1 x4 σ2 _ _ _ h hP hS (lv_sub hl [3, 4, 5, 6, 2, 1, 0] rfl)

def f_X10_command (σ : Sta) : Option ((Unit ⊕ (Int32 × Int32)) × Sta) :=
  if gI σ 29 < 0 ∨ 1501 ≤ ((gI σ 29).toNatClampNeg) then none else (
  lt (gA σ 4 ((gI σ 29).toNatClampNeg)) (fun x2 =>
  bnw (f_X10_newName σ) (fun r3 σ4 =>
  bnw (f_X10_take_ 7 σ4) (fun _ σ7 =>
  bnw (f_X10_whole σ7) (fun r9 σ10 =>
  if gI σ10 30 = 0 then
    f_X10_command_42 x2 r3 r9 0 σ10
  else
    f_X10_command_42 x2 r3 r9 (gI σ10 19) σ10)))))
set_option maxHeartbeats 4000000 in
set_option maxRecDepth 100000 in
theorem c_X10_command {l : Launch} {D : va_G} {Y : CYs} {E : Nat → Nat} {X : List Dsc} (hX : Lok (LM ++ X)) (ht : l.stackTraces = false) {σ : Sta} {o : (Unit ⊕ (Int32 × Int32)) × Sta} (h : f_X10_command σ = some o) : MWV l yX10_command (Cond.code yX10_command cX10_command 8 none :: gW) 114 4272 (LM ++ X) Y D E [.ref (E 0)] σ o := by
  refine Met_ofWV (by decide) (Nat.le_of_ble_eq_true rfl) (fun p e s m args below meth c hF hP htab ls hl => ?_)
  have hS : va_S (AF E (LM ++ X).length s.heap.size) s.heap s.heap [] := va_S.rf
  have hl : lv_has ls 8 [(0, .ref (E 0))] := hl
  show W p l e (rmw 114 4272 o) s m args below meth c s.heap [] 0 0 (QwV below args s (LM ++ X) Y D E o) (F0 m 0 ls [])
  unfold f_X10_command at h
  obtain ⟨hC, hb, hml, hr, hlk, hD, hSW⟩ := id hF
  have hx := hC.1
  refine lv_aload_n hx hb dX10_command_0 rfl (lv_at hl 0 rfl) ?_
  refine gf_X10_20 hC hb hP dX10_command_1 ?_
  refine lv_aload_n hx hb dX10_command_4 rfl (lv_at hl 0 rfl) ?_
  refine gf_X10_219 hC hb hP dX10_command_5 ?_
  obtain ⟨g1, h⟩ := of_gd h
  refine x_iald hC hb hP (lm_4 X) g1 dX10_command_8 ?_
  refine lv_topi (fun x2 ex2 => ?_)
  have h := of_lt h ex2
  refine lv_istore_n (lv' := [(1, .int x2), (0, .ref (E 0))]) hx hb dX10_command_9 rfl hl (by decide) rfl (fun ls hl => ?_)
  refine lv_aload_n hx hb dX10_command_10 rfl (lv_at hl 1 rfl) ?_
  rcases of_bnw h with ⟨r3, σ4, g5, h⟩ | ⟨Xx, σ4, g5, rfl⟩
  rotate_left
  · exact x_VTw (As := []) (rest := []) hF hl hP hS (c_X10_newName hX ht g5) (cw_X10_307 hC rfl rfl ⟨Nat.le_of_ble_eq_true rfl, Nat.le_of_ble_eq_true rfl⟩) (lm_0 X) rfl rfl rfl (Nat.le_of_ble_eq_true rfl) dX10_command_11 ⟨Nat.le_refl _, Nat.le_refl _⟩ (htab _ _ rfl)
  refine x_VL (As := []) (rest := []) hF hl hP hS (c_X10_newName hX ht g5) (cw_X10_307 hC rfl rfl ⟨Nat.le_of_ble_eq_true rfl, Nat.le_of_ble_eq_true rfl⟩) (lm_0 X) rfl rfl rfl (Nat.le_of_ble_eq_true rfl) dX10_command_11 ⟨Nat.zero_le _, Nat.zero_le _⟩ (fun H locs hP hS => ?_)
  refine lv_lstore_n (lv' := [(2, .long r3), (1, .int x2), (0, .ref (E 0))]) hx hb dX10_command_14 rfl hl (by decide) rfl (fun ls hl => ?_)
  refine lv_aload_n hx hb dX10_command_15 rfl (lv_at hl 2 rfl) ?_
  refine lv_bipush (v := 7) hx hb dX10_command_16 (by decide) ?_
  rcases of_bnw h with ⟨r6, σ7, g8, h⟩ | ⟨Xx, σ7, g8, rfl⟩
  rotate_left
  · exact x_VTw (As := [.int 7]) (rest := []) hF hl hP hS (c_X10_take_ hX ht g8) (cw_X10_286 hC rfl rfl ⟨Nat.le_of_ble_eq_true rfl, Nat.le_of_ble_eq_true rfl⟩) (lm_0 X) rfl rfl rfl (Nat.le_of_ble_eq_true rfl) dX10_command_18 ⟨Nat.le_refl _, Nat.le_refl _⟩ (htab _ _ rfl)
  refine x_VV (As := [.int 7]) (rest := []) hF hl hP hS (c_X10_take_ hX ht g8) (cw_X10_286 hC rfl rfl ⟨Nat.le_of_ble_eq_true rfl, Nat.le_of_ble_eq_true rfl⟩) (lm_0 X) rfl rfl rfl (Nat.le_of_ble_eq_true rfl) dX10_command_18 ⟨Nat.zero_le _, Nat.zero_le _⟩ (fun H locs hP hS => ?_)
  refine lv_aload_n hx hb dX10_command_21 rfl (lv_at hl 2 rfl) ?_
  rcases of_bnw h with ⟨r9, σ10, g11, h⟩ | ⟨Xx, σ10, g11, rfl⟩
  rotate_left
  · exact x_VTw (As := []) (rest := []) hF hl hP hS (c_X10_whole hX ht g11) (cw_X10_304 hC rfl rfl ⟨Nat.le_of_ble_eq_true rfl, Nat.le_of_ble_eq_true rfl⟩) (lm_0 X) rfl rfl rfl (Nat.le_of_ble_eq_true rfl) dX10_command_22 ⟨Nat.le_refl _, Nat.le_refl _⟩ (htab _ _ rfl)
  refine x_VI (As := []) (rest := []) hF hl hP hS (c_X10_whole hX ht g11) (cw_X10_304 hC rfl rfl ⟨Nat.le_of_ble_eq_true rfl, Nat.le_of_ble_eq_true rfl⟩) (lm_0 X) rfl rfl rfl (Nat.le_of_ble_eq_true rfl) dX10_command_22 ⟨Nat.zero_le _, Nat.zero_le _⟩ (fun H locs hP hS => ?_)
  refine lv_istore (lv' := [(4, .int r9), (2, .long r3), (1, .int x2), (0, .ref (E 0))]) hx hb dX10_command_25 hl (by decide) rfl (fun ls hl => ?_)
  refine lv_aload_n hx hb dX10_command_27 rfl (lv_at hl 3 rfl) ?_
  refine gf_X10_227 hC hb hP dX10_command_28 ?_
  refine lv_if_eq (tgt := 41) hx hb dX10_command_31 (by decide) (fun c12 => ?_) (fun c12 => ?_)
  · have h := of_t h c12
    refine lv_iconst (v := 0) hx hb dX10_command_41 (by decide) ?_
    exact t_X10_command_42 hX  hF ht htab x2 r3 r9 0 σ10 _ _ _ h hP hS (lv_sub hl [3, 2, 1, 0] rfl)
  · have h := of_f h c12
    refine lv_aload_n hx hb dX10_command_34 rfl (lv_at hl 3 rfl) ?_
    refine gf_X10_207 hC hb hP dX10_command_35 ?_
    refine lv_goto (tgt := 42) hx hb dX10_command_38 (by decide) ?_
    exact t_X10_command_42 hX  hF ht htab x2 r3 r9 (gI σ10 19) σ10 _ _ _ h hP hS (lv_sub hl [3, 2, 1, 0] rfl)

def f_X10_item_186 (σ : Sta) : Option ((Unit ⊕ (Int32 × Int32)) × Sta) :=
  bnw (f_X10_take_ 102 σ) (fun _ σ2 =>
  some (.inl (), σ2))
set_option maxHeartbeats 4000000 in
set_option maxRecDepth 100000 in
theorem t_X10_item_186 {l : Launch} {D : va_G} {Y : CYs} {E : Nat → Nat} {X : List Dsc} (hX : Lok (LM ++ X)) {p : Program} {e : Env} {s : State} {m : MethodId} {args : Array Value} {below : List Frame} {meth : Method} {c : Code} (hF : Fr p s m args meth c RX10 cX10_item 4 none D Y E (LM ++ X)) {o : (Unit ⊕ (Int32 × Int32)) × Sta} (ht : l.stackTraces = false) (htab : ∀ X u, o = (.inr X, u) → ∀ x ∈ c.exceptionTable.toList, False) : ∀ (σ : Sta) (H : Heap) (locs : List Loc) (ls : Array Slot), f_X10_item_186 σ = some o → va_P D vwCl (wd Y E σ 0 (LM ++ X)) H → va_S (AF E (LM ++ X).length s.heap.size) s.heap H locs → lv_has ls 4 [(0, .ref (E 0))] → W p l e (rmw 115 4299 o) s m args below meth c H locs 0 0 (QwV below args s (LM ++ X) Y D E o) (F0 m 186 ls []) := by
  intro σ H locs ls h hP hS hl
  unfold f_X10_item_186 at h
  obtain ⟨hC, hb, hml, hr, hlk, hD, hSW⟩ := id hF
  have hx := hC.1
  refine lv_aload_n hx hb dX10_item_186 rfl (lv_at hl 0 rfl) ?_
  refine lv_bipush (v := 102) hx hb dX10_item_187 (by decide) ?_
  rcases of_bnw h with ⟨r1, σ2, g3, h⟩ | ⟨Xx, σ2, g3, rfl⟩
  rotate_left
  · exact x_VTw (As := [.int 102]) (rest := []) hF hl hP hS (c_X10_take_ hX ht g3) (cw_X10_286 hC rfl rfl ⟨Nat.le_of_ble_eq_true rfl, Nat.le_of_ble_eq_true rfl⟩) (lm_0 X) rfl rfl rfl (Nat.le_of_ble_eq_true rfl) dX10_item_189 ⟨Nat.le_refl _, Nat.le_refl _⟩ (htab _ _ rfl)
  refine x_VV (As := [.int 102]) (rest := []) hF hl hP hS (c_X10_take_ hX ht g3) (cw_X10_286 hC rfl rfl ⟨Nat.le_of_ble_eq_true rfl, Nat.le_of_ble_eq_true rfl⟩) (lm_0 X) rfl rfl rfl (Nat.le_of_ble_eq_true rfl) dX10_item_189 ⟨Nat.zero_le _, Nat.zero_le _⟩ (fun H locs hP hS => ?_)
  exact x_vretW hF hP hS h dX10_item_192

def f_X10_item_128 (v1 : Int32) (v2 : Int32) (s0 : Int32) (σ : Sta) : Option ((Unit ⊕ (Int32 × Int32)) × Sta) :=
  bnw (f_X10_must s0 4 v2 σ) (fun _ σ2 =>
  if v1 = 0 then
    bnw (f_X10_variable σ2) (fun _ σ19 =>
    f_X10_item_186 σ19)
  else
    if v1 = 3 then
      bnw (f_X10_gain σ2) (fun _ σ16 =>
      f_X10_item_186 σ16)
    else
      if v1 = 6 then
        bnw (f_X10_command σ2) (fun _ σ13 =>
        f_X10_item_186 σ13)
      else
        bnw (f_X10_whole σ2) (fun r7 σ8 =>
        if gI σ8 30 = 0 then
          f_X10_item_186 σ8
        else
          lt (sI σ8 18 r7) (fun σ11 =>
          f_X10_item_186 σ11)))
set_option maxHeartbeats 4000000 in
set_option maxRecDepth 100000 in
theorem t_X10_item_128 {l : Launch} {D : va_G} {Y : CYs} {E : Nat → Nat} {X : List Dsc} (hX : Lok (LM ++ X)) {p : Program} {e : Env} {s : State} {m : MethodId} {args : Array Value} {below : List Frame} {meth : Method} {c : Code} (hF : Fr p s m args meth c RX10 cX10_item 4 none D Y E (LM ++ X)) {o : (Unit ⊕ (Int32 × Int32)) × Sta} (ht : l.stackTraces = false) (htab : ∀ X u, o = (.inr X, u) → ∀ x ∈ c.exceptionTable.toList, False) : ∀ (v1 : Int32) (v2 : Int32) (s0 : Int32) (σ : Sta) (H : Heap) (locs : List Loc) (ls : Array Slot), f_X10_item_128 v1 v2 s0 σ = some o → va_P D vwCl (wd Y E σ 0 (LM ++ X)) H → va_S (AF E (LM ++ X).length s.heap.size) s.heap H locs → lv_has ls 4 [(0, .ref (E 0)), (1, .int v1), (2, .int v2)] → W p l e (rmw 115 4299 o) s m args below meth c H locs 0 0 (QwV below args s (LM ++ X) Y D E o) (F0 m 128 ls [.int s0, .ref (E 0)]) := by
  intro v1 v2 s0 σ H locs ls h hP hS hl
  unfold f_X10_item_128 at h
  obtain ⟨hC, hb, hml, hr, hlk, hD, hSW⟩ := id hF
  have hx := hC.1
  refine lv_iconst (v := 4) hx hb dX10_item_128 (by decide) ?_
  refine lv_iload_n hx hb dX10_item_129 rfl (lv_at hl 2 rfl) ?_
  rcases of_bnw h with ⟨r1, σ2, g3, h⟩ | ⟨Xx, σ2, g3, rfl⟩
  rotate_left
  · exact x_VTw (As := [.int s0, .int 4, .int v2]) (rest := []) hF hl hP hS (c_X10_must hX ht g3) (cw_X10_288 hC rfl rfl ⟨Nat.le_of_ble_eq_true rfl, Nat.le_of_ble_eq_true rfl⟩) (lm_0 X) rfl rfl rfl (Nat.le_of_ble_eq_true rfl) dX10_item_130 ⟨Nat.le_refl _, Nat.le_refl _⟩ (htab _ _ rfl)
  refine x_VV (As := [.int s0, .int 4, .int v2]) (rest := []) hF hl hP hS (c_X10_must hX ht g3) (cw_X10_288 hC rfl rfl ⟨Nat.le_of_ble_eq_true rfl, Nat.le_of_ble_eq_true rfl⟩) (lm_0 X) rfl rfl rfl (Nat.le_of_ble_eq_true rfl) dX10_item_130 ⟨Nat.zero_le _, Nat.zero_le _⟩ (fun H locs hP hS => ?_)
  refine lv_iload_n hx hb dX10_item_133 rfl (lv_at hl 1 rfl) ?_
  refine lv_if_ne (tgt := 144) hx hb dX10_item_134 (by decide) (fun c4 => ?_) (fun c4 => ?_)
  · have h := of_f h c4
    refine lv_iload_n hx hb dX10_item_144 rfl (lv_at hl 1 rfl) ?_
    refine lv_iconst (v := 3) hx hb dX10_item_145 (by decide) ?_
    refine lv_icmp_ne (tgt := 156) hx hb dX10_item_146 (by decide) (fun c5 => ?_) (fun c5 => ?_)
    · have h := of_f h c5
      refine lv_iload_n hx hb dX10_item_156 rfl (lv_at hl 1 rfl) ?_
      refine lv_bipush (v := 6) hx hb dX10_item_157 (by decide) ?_
      refine lv_icmp_ne (tgt := 169) hx hb dX10_item_159 (by decide) (fun c6 => ?_) (fun c6 => ?_)
      · have h := of_f h c6
        refine lv_aload_n hx hb dX10_item_169 rfl (lv_at hl 0 rfl) ?_
        rcases of_bnw h with ⟨r7, σ8, g9, h⟩ | ⟨Xx, σ8, g9, rfl⟩
        rotate_left
        · exact x_VTw (As := []) (rest := []) hF hl hP hS (c_X10_whole hX ht g9) (cw_X10_304 hC rfl rfl ⟨Nat.le_of_ble_eq_true rfl, Nat.le_of_ble_eq_true rfl⟩) (lm_0 X) rfl rfl rfl (Nat.le_of_ble_eq_true rfl) dX10_item_170 ⟨Nat.le_refl _, Nat.le_refl _⟩ (htab _ _ rfl)
        refine x_VI (As := []) (rest := []) hF hl hP hS (c_X10_whole hX ht g9) (cw_X10_304 hC rfl rfl ⟨Nat.le_of_ble_eq_true rfl, Nat.le_of_ble_eq_true rfl⟩) (lm_0 X) rfl rfl rfl (Nat.le_of_ble_eq_true rfl) dX10_item_170 ⟨Nat.zero_le _, Nat.zero_le _⟩ (fun H locs hP hS => ?_)
        refine lv_istore_n (lv' := [(3, .int r7), (0, .ref (E 0)), (1, .int v1), (2, .int v2)]) hx hb dX10_item_173 rfl hl (by decide) rfl (fun ls hl => ?_)
        refine lv_aload_n hx hb dX10_item_174 rfl (lv_at hl 1 rfl) ?_
        refine gf_X10_227 hC hb hP dX10_item_175 ?_
        refine lv_if_eq (tgt := 186) hx hb dX10_item_178 (by decide) (fun c10 => ?_) (fun c10 => ?_)
        · have h := of_t h c10
          exact t_X10_item_186 hX  hF ht htab σ8 _ _ _ h hP hS (lv_sub hl [1] rfl)
        · have h := of_f h c10
          refine lv_aload_n hx hb dX10_item_181 rfl (lv_at hl 1 rfl) ?_
          refine lv_iload_n hx hb dX10_item_182 rfl (lv_at hl 0 rfl) ?_
          refine pf_X10_204 hX hC hb hP hD hS dX10_item_183 (fun H locs σ11 eσ11 hP hS => ?_)
          have h := of_lt h eσ11
          exact t_X10_item_186 hX  hF ht htab σ11 _ _ _ h hP hS (lv_sub hl [1] rfl)
      · have h := of_t h c6
        refine lv_aload_n hx hb dX10_item_162 rfl (lv_at hl 0 rfl) ?_
        rcases of_bnw h with ⟨r12, σ13, g14, h⟩ | ⟨Xx, σ13, g14, rfl⟩
        rotate_left
        · exact x_VTw (As := []) (rest := []) hF hl hP hS (c_X10_command hX ht g14) (cw_X10_301 hC rfl rfl ⟨Nat.le_of_ble_eq_true rfl, Nat.le_of_ble_eq_true rfl⟩) (lm_0 X) rfl rfl rfl (Nat.le_of_ble_eq_true rfl) dX10_item_163 ⟨Nat.le_refl _, Nat.le_refl _⟩ (htab _ _ rfl)
        refine x_VV (As := []) (rest := []) hF hl hP hS (c_X10_command hX ht g14) (cw_X10_301 hC rfl rfl ⟨Nat.le_of_ble_eq_true rfl, Nat.le_of_ble_eq_true rfl⟩) (lm_0 X) rfl rfl rfl (Nat.le_of_ble_eq_true rfl) dX10_item_163 ⟨Nat.zero_le _, Nat.zero_le _⟩ (fun H locs hP hS => ?_)
        refine lv_goto (tgt := 186) hx hb dX10_item_166 (by decide) ?_
        exact t_X10_item_186 hX  hF ht htab σ13 _ _ _ h hP hS (lv_sub hl [0] rfl)
    · have h := of_t h c5
      refine lv_aload_n hx hb dX10_item_149 rfl (lv_at hl 0 rfl) ?_
      rcases of_bnw h with ⟨r15, σ16, g17, h⟩ | ⟨Xx, σ16, g17, rfl⟩
      rotate_left
      · exact x_VTw (As := []) (rest := []) hF hl hP hS (c_X10_gain hX ht g17) (cw_X10_298 hC rfl rfl ⟨Nat.le_of_ble_eq_true rfl, Nat.le_of_ble_eq_true rfl⟩) (lm_0 X) rfl rfl rfl (Nat.le_of_ble_eq_true rfl) dX10_item_150 ⟨Nat.le_refl _, Nat.le_refl _⟩ (htab _ _ rfl)
      refine x_VV (As := []) (rest := []) hF hl hP hS (c_X10_gain hX ht g17) (cw_X10_298 hC rfl rfl ⟨Nat.le_of_ble_eq_true rfl, Nat.le_of_ble_eq_true rfl⟩) (lm_0 X) rfl rfl rfl (Nat.le_of_ble_eq_true rfl) dX10_item_150 ⟨Nat.zero_le _, Nat.zero_le _⟩ (fun H locs hP hS => ?_)
      refine lv_goto (tgt := 186) hx hb dX10_item_153 (by decide) ?_
      exact t_X10_item_186 hX  hF ht htab σ16 _ _ _ h hP hS (lv_sub hl [0] rfl)
  · have h := of_t h c4
    refine lv_aload_n hx hb dX10_item_137 rfl (lv_at hl 0 rfl) ?_
    rcases of_bnw h with ⟨r18, σ19, g20, h⟩ | ⟨Xx, σ19, g20, rfl⟩
    rotate_left
    · exact x_VTw (As := []) (rest := []) hF hl hP hS (c_X10_variable hX ht g20) (cw_X10_295 hC rfl rfl ⟨Nat.le_of_ble_eq_true rfl, Nat.le_of_ble_eq_true rfl⟩) (lm_0 X) rfl rfl rfl (Nat.le_of_ble_eq_true rfl) dX10_item_138 ⟨Nat.le_refl _, Nat.le_refl _⟩ (htab _ _ rfl)
    refine x_VV (As := []) (rest := []) hF hl hP hS (c_X10_variable hX ht g20) (cw_X10_295 hC rfl rfl ⟨Nat.le_of_ble_eq_true rfl, Nat.le_of_ble_eq_true rfl⟩) (lm_0 X) rfl rfl rfl (Nat.le_of_ble_eq_true rfl) dX10_item_138 ⟨Nat.zero_le _, Nat.zero_le _⟩ (fun H locs hP hS => ?_)
    refine lv_goto (tgt := 186) hx hb dX10_item_141 (by decide) ?_
    exact t_X10_item_186 hX  hF ht htab σ19 _ _ _ h hP hS (lv_sub hl [0] rfl)

def f_X10_item_45 (v1 : Int32) (v2 : Int32) (σ : Sta) : Option ((Unit ⊕ (Int32 × Int32)) × Sta) :=
  bnw (f_X10_take σ) (fun _ σ2 =>
  if v1 = 0 then
    if 6 ≤ gI σ2 10 then
      f_X10_item_128 v1 v2 0 σ2
    else
      f_X10_item_128 v1 v2 1 σ2
  else
    if v1 = 3 then
      if 3 ≤ gI σ2 15 then
        f_X10_item_128 v1 v2 0 σ2
      else
        f_X10_item_128 v1 v2 1 σ2
    else
      if v1 = 6 then
        if 16 ≤ gI σ2 19 then
          f_X10_item_128 v1 v2 0 σ2
        else
          f_X10_item_128 v1 v2 1 σ2
      else
        if gI σ2 18 = -1 then
          f_X10_item_128 v1 v2 1 σ2
        else
          f_X10_item_128 v1 v2 0 σ2)
set_option maxHeartbeats 4000000 in
set_option maxRecDepth 100000 in
theorem t_X10_item_45 {l : Launch} {D : va_G} {Y : CYs} {E : Nat → Nat} {X : List Dsc} (hX : Lok (LM ++ X)) {p : Program} {e : Env} {s : State} {m : MethodId} {args : Array Value} {below : List Frame} {meth : Method} {c : Code} (hF : Fr p s m args meth c RX10 cX10_item 4 none D Y E (LM ++ X)) {o : (Unit ⊕ (Int32 × Int32)) × Sta} (ht : l.stackTraces = false) (htab : ∀ X u, o = (.inr X, u) → ∀ x ∈ c.exceptionTable.toList, False) : ∀ (v1 : Int32) (v2 : Int32) (σ : Sta) (H : Heap) (locs : List Loc) (ls : Array Slot), f_X10_item_45 v1 v2 σ = some o → va_P D vwCl (wd Y E σ 0 (LM ++ X)) H → va_S (AF E (LM ++ X).length s.heap.size) s.heap H locs → lv_has ls 4 [(0, .ref (E 0)), (1, .int v1), (2, .int v2)] → W p l e (rmw 115 4299 o) s m args below meth c H locs 0 0 (QwV below args s (LM ++ X) Y D E o) (F0 m 45 ls []) := by
  intro v1 v2 σ H locs ls h hP hS hl
  unfold f_X10_item_45 at h
  obtain ⟨hC, hb, hml, hr, hlk, hD, hSW⟩ := id hF
  have hx := hC.1
  refine lv_aload_n hx hb dX10_item_45 rfl (lv_at hl 0 rfl) ?_
  rcases of_bnw h with ⟨r1, σ2, g3, h⟩ | ⟨Xx, σ2, g3, rfl⟩
  rotate_left
  · exact x_VTw (As := []) (rest := []) hF hl hP hS (c_X10_take hX ht g3) (cw_X10_241 hC rfl rfl ⟨Nat.le_of_ble_eq_true rfl, Nat.le_of_ble_eq_true rfl⟩) (lm_0 X) rfl rfl rfl (Nat.le_of_ble_eq_true rfl) dX10_item_46 ⟨Nat.le_refl _, Nat.le_refl _⟩ (htab _ _ rfl)
  refine x_VV (As := []) (rest := []) hF hl hP hS (c_X10_take hX ht g3) (cw_X10_241 hC rfl rfl ⟨Nat.le_of_ble_eq_true rfl, Nat.le_of_ble_eq_true rfl⟩) (lm_0 X) rfl rfl rfl (Nat.le_of_ble_eq_true rfl) dX10_item_46 ⟨Nat.zero_le _, Nat.zero_le _⟩ (fun H locs hP hS => ?_)
  refine lv_aload_n hx hb dX10_item_49 rfl (lv_at hl 0 rfl) ?_
  refine lv_iload_n hx hb dX10_item_50 rfl (lv_at hl 1 rfl) ?_
  refine lv_if_ne (tgt := 71) hx hb dX10_item_51 (by decide) (fun c4 => ?_) (fun c4 => ?_)
  · have h := of_f h c4
    refine lv_iload_n hx hb dX10_item_71 rfl (lv_at hl 1 rfl) ?_
    refine lv_iconst (v := 3) hx hb dX10_item_72 (by decide) ?_
    refine lv_icmp_ne (tgt := 92) hx hb dX10_item_73 (by decide) (fun c5 => ?_) (fun c5 => ?_)
    · have h := of_f h c5
      refine lv_iload_n hx hb dX10_item_92 rfl (lv_at hl 1 rfl) ?_
      refine lv_bipush (v := 6) hx hb dX10_item_93 (by decide) ?_
      refine lv_icmp_ne (tgt := 115) hx hb dX10_item_95 (by decide) (fun c6 => ?_) (fun c6 => ?_)
      · have h := of_f h c6
        refine lv_aload_n hx hb dX10_item_115 rfl (lv_at hl 0 rfl) ?_
        refine gf_X10_204 hC hb hP dX10_item_116 ?_
        refine lv_iconst (v := -1) hx hb dX10_item_119 (by decide) ?_
        refine lv_icmp_ne (tgt := 127) hx hb dX10_item_120 (by decide) (fun c7 => ?_) (fun c7 => ?_)
        · have h := of_f h c7
          refine lv_iconst (v := 0) hx hb dX10_item_127 (by decide) ?_
          exact t_X10_item_128 hX  hF ht htab v1 v2 0 σ2 _ _ _ h hP hS (lv_sub hl [0, 1, 2] rfl)
        · have h := of_t h c7
          refine lv_iconst (v := 1) hx hb dX10_item_123 (by decide) ?_
          refine lv_goto (tgt := 128) hx hb dX10_item_124 (by decide) ?_
          exact t_X10_item_128 hX  hF ht htab v1 v2 1 σ2 _ _ _ h hP hS (lv_sub hl [0, 1, 2] rfl)
      · have h := of_t h c6
        refine lv_aload_n hx hb dX10_item_98 rfl (lv_at hl 0 rfl) ?_
        refine gf_X10_207 hC hb hP dX10_item_99 ?_
        refine lv_bipush (v := 16) hx hb dX10_item_102 (by decide) ?_
        refine lv_icmp_ge (tgt := 111) hx hb dX10_item_104 (by decide) (fun c8 => ?_) (fun c8 => ?_)
        · have h := of_t h c8
          refine lv_iconst (v := 0) hx hb dX10_item_111 (by decide) ?_
          refine lv_goto (tgt := 128) hx hb dX10_item_112 (by decide) ?_
          exact t_X10_item_128 hX  hF ht htab v1 v2 0 σ2 _ _ _ h hP hS (lv_sub hl [0, 1, 2] rfl)
        · have h := of_f h c8
          refine lv_iconst (v := 1) hx hb dX10_item_107 (by decide) ?_
          refine lv_goto (tgt := 128) hx hb dX10_item_108 (by decide) ?_
          exact t_X10_item_128 hX  hF ht htab v1 v2 1 σ2 _ _ _ h hP hS (lv_sub hl [0, 1, 2] rfl)
    · have h := of_t h c5
      refine lv_aload_n hx hb dX10_item_76 rfl (lv_at hl 0 rfl) ?_
      refine gf_X10_201 hC hb hP dX10_item_77 ?_
      refine lv_iconst (v := 3) hx hb dX10_item_80 (by decide) ?_
      refine lv_icmp_ge (tgt := 88) hx hb dX10_item_81 (by decide) (fun c9 => ?_) (fun c9 => ?_)
      · have h := of_t h c9
        refine lv_iconst (v := 0) hx hb dX10_item_88 (by decide) ?_
        refine lv_goto (tgt := 128) hx hb dX10_item_89 (by decide) ?_
        exact t_X10_item_128 hX  hF ht htab v1 v2 0 σ2 _ _ _ h hP hS (lv_sub hl [0, 1, 2] rfl)
      · have h := of_f h c9
        refine lv_iconst (v := 1) hx hb dX10_item_84 (by decide) ?_
        refine lv_goto (tgt := 128) hx hb dX10_item_85 (by decide) ?_
        exact t_X10_item_128 hX  hF ht htab v1 v2 1 σ2 _ _ _ h hP hS (lv_sub hl [0, 1, 2] rfl)
  · have h := of_t h c4
    refine lv_aload_n hx hb dX10_item_54 rfl (lv_at hl 0 rfl) ?_
    refine gf_X10_198 hC hb hP dX10_item_55 ?_
    refine lv_bipush (v := 6) hx hb dX10_item_58 (by decide) ?_
    refine lv_icmp_ge (tgt := 67) hx hb dX10_item_60 (by decide) (fun c10 => ?_) (fun c10 => ?_)
    · have h := of_t h c10
      refine lv_iconst (v := 0) hx hb dX10_item_67 (by decide) ?_
      refine lv_goto (tgt := 128) hx hb dX10_item_68 (by decide) ?_
      exact t_X10_item_128 hX  hF ht htab v1 v2 0 σ2 _ _ _ h hP hS (lv_sub hl [0, 1, 2] rfl)
    · have h := of_f h c10
      refine lv_iconst (v := 1) hx hb dX10_item_63 (by decide) ?_
      refine lv_goto (tgt := 128) hx hb dX10_item_64 (by decide) ?_
      exact t_X10_item_128 hX  hF ht htab v1 v2 1 σ2 _ _ _ h hP hS (lv_sub hl [0, 1, 2] rfl)

def f_X10_item (σ : Sta) : Option ((Unit ⊕ (Int32 × Int32)) × Sta) :=
  if gI σ 29 < 0 ∨ 1501 ≤ ((gI σ 29).toNatClampNeg) then none else (
  lt (gA σ 3 ((gI σ 29).toNatClampNeg)) (fun x2 =>
  if gI σ 29 < 0 ∨ 1501 ≤ ((gI σ 29).toNatClampNeg) then none else (
  lt (gA σ 4 ((gI σ 29).toNatClampNeg)) (fun x4 =>
  if x2 = 0 then
    f_X10_item_45 x2 x4 σ
  else
    if x2 = 3 then
      f_X10_item_45 x2 x4 σ
    else
      if x2 = 5 then
        f_X10_item_45 x2 x4 σ
      else
        if x2 = 6 then
          f_X10_item_45 x2 x4 σ
        else
          bnr (f_X10_wrong σ) (fun X9 => some (.inr X9, σ))))))
set_option maxHeartbeats 4000000 in
set_option maxRecDepth 100000 in
theorem c_X10_item {l : Launch} {D : va_G} {Y : CYs} {E : Nat → Nat} {X : List Dsc} (hX : Lok (LM ++ X)) (ht : l.stackTraces = false) {σ : Sta} {o : (Unit ⊕ (Int32 × Int32)) × Sta} (h : f_X10_item σ = some o) : MWV l yX10_item (Cond.code yX10_item cX10_item 4 none :: gW) 115 4299 (LM ++ X) Y D E [.ref (E 0)] σ o := by
  refine Met_ofWV (by decide) (Nat.le_of_ble_eq_true rfl) (fun p e s m args below meth c hF hP htab ls hl => ?_)
  have hS : va_S (AF E (LM ++ X).length s.heap.size) s.heap s.heap [] := va_S.rf
  have hl : lv_has ls 4 [(0, .ref (E 0))] := hl
  show W p l e (rmw 115 4299 o) s m args below meth c s.heap [] 0 0 (QwV below args s (LM ++ X) Y D E o) (F0 m 0 ls [])
  unfold f_X10_item at h
  obtain ⟨hC, hb, hml, hr, hlk, hD, hSW⟩ := id hF
  have hx := hC.1
  refine lv_aload_n hx hb dX10_item_0 rfl (lv_at hl 0 rfl) ?_
  refine gf_X10_17 hC hb hP dX10_item_1 ?_
  refine lv_aload_n hx hb dX10_item_4 rfl (lv_at hl 0 rfl) ?_
  refine gf_X10_219 hC hb hP dX10_item_5 ?_
  obtain ⟨g1, h⟩ := of_gd h
  refine x_iald hC hb hP (lm_3 X) g1 dX10_item_8 ?_
  refine lv_topi (fun x2 ex2 => ?_)
  have h := of_lt h ex2
  refine lv_istore_n (lv' := [(1, .int x2), (0, .ref (E 0))]) hx hb dX10_item_9 rfl hl (by decide) rfl (fun ls hl => ?_)
  refine lv_aload_n hx hb dX10_item_10 rfl (lv_at hl 1 rfl) ?_
  refine gf_X10_20 hC hb hP dX10_item_11 ?_
  refine lv_aload_n hx hb dX10_item_14 rfl (lv_at hl 1 rfl) ?_
  refine gf_X10_219 hC hb hP dX10_item_15 ?_
  obtain ⟨g3, h⟩ := of_gd h
  refine x_iald hC hb hP (lm_4 X) g3 dX10_item_18 ?_
  refine lv_topi (fun x4 ex4 => ?_)
  have h := of_lt h ex4
  refine lv_istore_n (lv' := [(2, .int x4), (1, .int x2), (0, .ref (E 0))]) hx hb dX10_item_19 rfl hl (by decide) rfl (fun ls hl => ?_)
  refine lv_iload_n hx hb dX10_item_20 rfl (lv_at hl 1 rfl) ?_
  refine lv_if_eq (tgt := 45) hx hb dX10_item_21 (by decide) (fun c5 => ?_) (fun c5 => ?_)
  · have h := of_t h c5
    exact t_X10_item_45 hX  hF ht htab x2 x4 σ _ _ _ h hP hS (lv_sub hl [2, 1, 0] rfl)
  · have h := of_f h c5
    refine lv_iload_n hx hb dX10_item_24 rfl (lv_at hl 1 rfl) ?_
    refine lv_iconst (v := 3) hx hb dX10_item_25 (by decide) ?_
    refine lv_icmp_eq (tgt := 45) hx hb dX10_item_26 (by decide) (fun c6 => ?_) (fun c6 => ?_)
    · have h := of_t h c6
      exact t_X10_item_45 hX  hF ht htab x2 x4 σ _ _ _ h hP hS (lv_sub hl [2, 1, 0] rfl)
    · have h := of_f h c6
      refine lv_iload_n hx hb dX10_item_29 rfl (lv_at hl 1 rfl) ?_
      refine lv_iconst (v := 5) hx hb dX10_item_30 (by decide) ?_
      refine lv_icmp_eq (tgt := 45) hx hb dX10_item_31 (by decide) (fun c7 => ?_) (fun c7 => ?_)
      · have h := of_t h c7
        exact t_X10_item_45 hX  hF ht htab x2 x4 σ _ _ _ h hP hS (lv_sub hl [2, 1, 0] rfl)
      · have h := of_f h c7
        refine lv_iload_n hx hb dX10_item_34 rfl (lv_at hl 1 rfl) ?_
        refine lv_bipush (v := 6) hx hb dX10_item_35 (by decide) ?_
        refine lv_icmp_eq (tgt := 45) hx hb dX10_item_37 (by decide) (fun c8 => ?_) (fun c8 => ?_)
        · have h := of_t h c8
          exact t_X10_item_45 hX  hF ht htab x2 x4 σ _ _ _ h hP hS (lv_sub hl [2, 1, 0] rfl)
        · have h := of_f h c8
          refine lv_aload_n hx hb dX10_item_40 rfl (lv_at hl 2 rfl) ?_
          obtain ⟨X9, g10, h⟩ := of_bnr h
          cases h
          refine x_VR (As := []) (rest := []) hF hl hP hS (c_X10_wrong hX ht g10) (cw_X10_234 hC rfl rfl ⟨Nat.le_of_ble_eq_true rfl, Nat.le_of_ble_eq_true rfl⟩) (lm_0 X) rfl rfl rfl (Nat.le_of_ble_eq_true rfl) dX10_item_41 ⟨Nat.le_of_ble_eq_true rfl, Nat.le_of_ble_eq_true rfl⟩ (fun wa11 H locs hP hS hWwa11 => ?_)
          exact x_throwW hF hP hS hWwa11 (htab _ _ rfl) dX10_item_44

def f_X10_readAll_19 : Nat → Sta → Option ((Unit ⊕ (Int32 × Int32)) × Sta)
  | 0, _ => none
  | n + 1, σ => bnd (f_X10_is 202 σ) (fun r1 σ2 =>
    if r1 = 0 then
      bnw (f_X10_item σ2) (fun _ σ6 =>
      f_X10_readAll_19 n σ6)
    else
      some (.inl (), σ2))
set_option maxHeartbeats 4000000 in
set_option maxRecDepth 100000 in
theorem t_X10_readAll_19 {l : Launch} {D : va_G} {Y : CYs} {E : Nat → Nat} {X : List Dsc} (hX : Lok (LM ++ X)) {p : Program} {e : Env} {s : State} {m : MethodId} {args : Array Value} {below : List Frame} {meth : Method} {c : Code} (hF : Fr p s m args meth c RX10 cX10_readAll 1 none D Y E (LM ++ X)) {o : (Unit ⊕ (Int32 × Int32)) × Sta} (ht : l.stackTraces = false) (htab : ∀ X u, o = (.inr X, u) → ∀ x ∈ c.exceptionTable.toList, False) : ∀ (n : Nat) (σ : Sta) (H : Heap) (locs : List Loc) (ls : Array Slot), f_X10_readAll_19 n σ = some o → va_P D vwCl (wd Y E σ 0 (LM ++ X)) H → va_S (AF E (LM ++ X).length s.heap.size) s.heap H locs → lv_has ls 1 [(0, .ref (E 0))] → W p l e (rmw 116 4322 o) s m args below meth c H locs 0 0 (QwV below args s (LM ++ X) Y D E o) (F0 m 19 ls []) := by
  intro n
  induction n with
  | zero =>
    intro σ H locs ls h hP hS hl
    exact nomatch (show (none : Option ((Unit ⊕ (Int32 × Int32)) × Sta)) = some o from h)
  | succ n ih =>
    intro σ H locs ls h hP hS hl
    rw [f_X10_readAll_19] at h
    obtain ⟨hC, hb, hml, hr, hlk, hD, hSW⟩ := id hF
    have hx := hC.1
    refine lv_aload_n hx hb dX10_readAll_19 rfl (lv_at hl 0 rfl) ?_
    refine lv_sipush (v := 202) hx hb dX10_readAll_20 (by decide) ?_
    obtain ⟨r1, σ2, g3, h⟩ := of_bnd h
    refine x_VI (As := [.int 202]) (rest := []) hF hl hP hS (c_X10_is hX g3) (cw_X10_238 hC rfl rfl ⟨Nat.le_of_ble_eq_true rfl, Nat.le_of_ble_eq_true rfl⟩) (lm_0 X) rfl rfl rfl (Nat.le_of_ble_eq_true rfl) dX10_readAll_23 ⟨Nat.zero_le _, Nat.zero_le _⟩ (fun H locs hP hS => ?_)
    refine lv_if_ne (tgt := 36) hx hb dX10_readAll_26 (by decide) (fun c4 => ?_) (fun c4 => ?_)
    · have h := of_f h c4
      exact x_vretW hF hP hS h dX10_readAll_36
    · have h := of_t h c4
      refine lv_aload_n hx hb dX10_readAll_29 rfl (lv_at hl 0 rfl) ?_
      rcases of_bnw h with ⟨r5, σ6, g7, h⟩ | ⟨Xx, σ6, g7, rfl⟩
      rotate_left
      · exact x_VTw (As := []) (rest := []) hF hl hP hS (c_X10_item hX ht g7) (cw_X10_333 hC rfl rfl ⟨Nat.le_of_ble_eq_true rfl, Nat.le_of_ble_eq_true rfl⟩) (lm_0 X) rfl rfl rfl (Nat.le_of_ble_eq_true rfl) dX10_readAll_30 ⟨Nat.le_refl _, Nat.le_refl _⟩ (htab _ _ rfl)
      refine x_VV (As := []) (rest := []) hF hl hP hS (c_X10_item hX ht g7) (cw_X10_333 hC rfl rfl ⟨Nat.le_of_ble_eq_true rfl, Nat.le_of_ble_eq_true rfl⟩) (lm_0 X) rfl rfl rfl (Nat.le_of_ble_eq_true rfl) dX10_readAll_30 ⟨Nat.zero_le _, Nat.zero_le _⟩ (fun H locs hP hS => ?_)
      refine lv_goto (tgt := 19) hx hb dX10_readAll_33 (by decide) ?_
      exact ih σ6 _ _ _ h hP hS (lv_sub hl [0] rfl)

def f_X10_readAll (σ : Sta) : Option ((Unit ⊕ (Int32 × Int32)) × Sta) :=
  lt (sI σ 29 0) (fun σ1 =>
  lt (sI σ1 31 0) (fun σ2 =>
  lt (sI σ2 32 (-1)) (fun σ3 =>
  bnw (f_X10_item σ3) (fun _ σ5 =>
  f_X10_readAll_19 FU σ5))))
set_option maxHeartbeats 4000000 in
set_option maxRecDepth 100000 in
theorem c_X10_readAll {l : Launch} {D : va_G} {Y : CYs} {E : Nat → Nat} {X : List Dsc} (hX : Lok (LM ++ X)) (ht : l.stackTraces = false) {σ : Sta} {o : (Unit ⊕ (Int32 × Int32)) × Sta} (h : f_X10_readAll σ = some o) : MWV l yX10_readAll (Cond.code yX10_readAll cX10_readAll 1 none :: gW) 116 4322 (LM ++ X) Y D E [.ref (E 0)] σ o := by
  refine Met_ofWV (by decide) (Nat.le_of_ble_eq_true rfl) (fun p e s m args below meth c hF hP htab ls hl => ?_)
  have hS : va_S (AF E (LM ++ X).length s.heap.size) s.heap s.heap [] := va_S.rf
  have hl : lv_has ls 1 [(0, .ref (E 0))] := hl
  show W p l e (rmw 116 4322 o) s m args below meth c s.heap [] 0 0 (QwV below args s (LM ++ X) Y D E o) (F0 m 0 ls [])
  unfold f_X10_readAll at h
  obtain ⟨hC, hb, hml, hr, hlk, hD, hSW⟩ := id hF
  have hx := hC.1
  refine lv_aload_n hx hb dX10_readAll_0 rfl (lv_at hl 0 rfl) ?_
  refine lv_iconst (v := 0) hx hb dX10_readAll_1 (by decide) ?_
  refine pf_X10_219 hX hC hb hP hD hS dX10_readAll_2 (fun H locs σ1 eσ1 hP hS => ?_)
  have h := of_lt h eσ1
  refine lv_aload_n hx hb dX10_readAll_5 rfl (lv_at hl 0 rfl) ?_
  refine lv_iconst (v := 0) hx hb dX10_readAll_6 (by decide) ?_
  refine pf_X10_244 hX hC hb hP hD hS dX10_readAll_7 (fun H locs σ2 eσ2 hP hS => ?_)
  have h := of_lt h eσ2
  refine lv_aload_n hx hb dX10_readAll_10 rfl (lv_at hl 0 rfl) ?_
  refine lv_iconst (v := -1) hx hb dX10_readAll_11 (by decide) ?_
  refine pf_X10_231 hX hC hb hP hD hS dX10_readAll_12 (fun H locs σ3 eσ3 hP hS => ?_)
  have h := of_lt h eσ3
  refine lv_aload_n hx hb dX10_readAll_15 rfl (lv_at hl 0 rfl) ?_
  rcases of_bnw h with ⟨r4, σ5, g6, h⟩ | ⟨Xx, σ5, g6, rfl⟩
  rotate_left
  · exact x_VTw (As := []) (rest := []) hF hl hP hS (c_X10_item hX ht g6) (cw_X10_333 hC rfl rfl ⟨Nat.le_of_ble_eq_true rfl, Nat.le_of_ble_eq_true rfl⟩) (lm_0 X) rfl rfl rfl (Nat.le_of_ble_eq_true rfl) dX10_readAll_16 ⟨Nat.le_refl _, Nat.le_refl _⟩ (htab _ _ rfl)
  refine x_VV (As := []) (rest := []) hF hl hP hS (c_X10_item hX ht g6) (cw_X10_333 hC rfl rfl ⟨Nat.le_of_ble_eq_true rfl, Nat.le_of_ble_eq_true rfl⟩) (lm_0 X) rfl rfl rfl (Nat.le_of_ble_eq_true rfl) dX10_readAll_16 ⟨Nat.zero_le _, Nat.zero_le _⟩ (fun H locs hP hS => ?_)
  exact t_X10_readAll_19 hX  hF ht htab FU σ5 _ _ _ h hP hS (lv_sub hl [0] rfl)

abbrev rm_X10_two : Room := { frames := 1, cells := 0, slots := 0, locals := 27 }
def f_X10_two_133 (s0 : Int64) (σ : Sta) : Option (Int64 × Sta) :=
  some (s0, σ)
set_option maxHeartbeats 4000000 in
set_option maxRecDepth 100000 in
theorem t_X10_two_133 {l : Launch} {D : va_G} {Y : CYs} {E : Nat → Nat} {X : List Dsc} (hX : Lok (LM ++ X)) {p : Program} {e : Env} {s : State} {m : MethodId} {args : Array Value} {below : List Frame} {meth : Method} {c : Code} (hF : Fr p s m args meth c RX10 cX10_two 5 (some .long) D Y E (LM ++ X)) {o : Int64 × Sta} : ∀ (s0 : Int64) (σ : Sta) (H : Heap) (locs : List Loc) (ls : Array Slot), f_X10_two_133 s0 σ = some o → va_P D vwCl (wd Y E σ 0 (LM ++ X)) H → va_S (AF E (LM ++ X).length s.heap.size) s.heap H locs → lv_has ls 5 [] → WL p l e rm_X10_two s m args below meth c (LM ++ X) Y D E o H locs (F0 m 133 ls [.long s0]) := by
  intro s0 σ H locs ls h hP hS hl
  unfold f_X10_two_133 at h
  obtain ⟨hC, hb, hml, hr, hlk, hD, hSW⟩ := id hF
  have hx := hC.1
  exact x_lret hF hP hS h dX10_two_133

def f_X10_two_147 (s0 : Int64) (σ : Sta) : Option (Int64 × Sta) :=
  some (s0, σ)
set_option maxHeartbeats 4000000 in
set_option maxRecDepth 100000 in
theorem t_X10_two_147 {l : Launch} {D : va_G} {Y : CYs} {E : Nat → Nat} {X : List Dsc} (hX : Lok (LM ++ X)) {p : Program} {e : Env} {s : State} {m : MethodId} {args : Array Value} {below : List Frame} {meth : Method} {c : Code} (hF : Fr p s m args meth c RX10 cX10_two 5 (some .long) D Y E (LM ++ X)) {o : Int64 × Sta} : ∀ (s0 : Int64) (σ : Sta) (H : Heap) (locs : List Loc) (ls : Array Slot), f_X10_two_147 s0 σ = some o → va_P D vwCl (wd Y E σ 0 (LM ++ X)) H → va_S (AF E (LM ++ X).length s.heap.size) s.heap H locs → lv_has ls 5 [] → WL p l e rm_X10_two s m args below meth c (LM ++ X) Y D E o H locs (F0 m 147 ls [.long s0]) := by
  intro s0 σ H locs ls h hP hS hl
  unfold f_X10_two_147 at h
  obtain ⟨hC, hb, hml, hr, hlk, hD, hSW⟩ := id hF
  have hx := hC.1
  exact x_lret hF hP hS h dX10_two_147

def f_X10_two_159 (s0 : Int64) (σ : Sta) : Option (Int64 × Sta) :=
  some (s0, σ)
set_option maxHeartbeats 4000000 in
set_option maxRecDepth 100000 in
theorem t_X10_two_159 {l : Launch} {D : va_G} {Y : CYs} {E : Nat → Nat} {X : List Dsc} (hX : Lok (LM ++ X)) {p : Program} {e : Env} {s : State} {m : MethodId} {args : Array Value} {below : List Frame} {meth : Method} {c : Code} (hF : Fr p s m args meth c RX10 cX10_two 5 (some .long) D Y E (LM ++ X)) {o : Int64 × Sta} : ∀ (s0 : Int64) (σ : Sta) (H : Heap) (locs : List Loc) (ls : Array Slot), f_X10_two_159 s0 σ = some o → va_P D vwCl (wd Y E σ 0 (LM ++ X)) H → va_S (AF E (LM ++ X).length s.heap.size) s.heap H locs → lv_has ls 5 [] → WL p l e rm_X10_two s m args below meth c (LM ++ X) Y D E o H locs (F0 m 159 ls [.long s0]) := by
  intro s0 σ H locs ls h hP hS hl
  unfold f_X10_two_159 at h
  obtain ⟨hC, hb, hml, hr, hlk, hD, hSW⟩ := id hF
  have hx := hC.1
  exact x_lret hF hP hS h dX10_two_159

def f_X10_two_171 (s0 : Int64) (σ : Sta) : Option (Int64 × Sta) :=
  some (s0, σ)
set_option maxHeartbeats 4000000 in
set_option maxRecDepth 100000 in
theorem t_X10_two_171 {l : Launch} {D : va_G} {Y : CYs} {E : Nat → Nat} {X : List Dsc} (hX : Lok (LM ++ X)) {p : Program} {e : Env} {s : State} {m : MethodId} {args : Array Value} {below : List Frame} {meth : Method} {c : Code} (hF : Fr p s m args meth c RX10 cX10_two 5 (some .long) D Y E (LM ++ X)) {o : Int64 × Sta} : ∀ (s0 : Int64) (σ : Sta) (H : Heap) (locs : List Loc) (ls : Array Slot), f_X10_two_171 s0 σ = some o → va_P D vwCl (wd Y E σ 0 (LM ++ X)) H → va_S (AF E (LM ++ X).length s.heap.size) s.heap H locs → lv_has ls 5 [] → WL p l e rm_X10_two s m args below meth c (LM ++ X) Y D E o H locs (F0 m 171 ls [.long s0]) := by
  intro s0 σ H locs ls h hP hS hl
  unfold f_X10_two_171 at h
  obtain ⟨hC, hb, hml, hr, hlk, hD, hSW⟩ := id hF
  have hx := hC.1
  exact x_lret hF hP hS h dX10_two_171

def f_X10_two_183 (s0 : Int64) (σ : Sta) : Option (Int64 × Sta) :=
  some (s0, σ)
set_option maxHeartbeats 4000000 in
set_option maxRecDepth 100000 in
theorem t_X10_two_183 {l : Launch} {D : va_G} {Y : CYs} {E : Nat → Nat} {X : List Dsc} (hX : Lok (LM ++ X)) {p : Program} {e : Env} {s : State} {m : MethodId} {args : Array Value} {below : List Frame} {meth : Method} {c : Code} (hF : Fr p s m args meth c RX10 cX10_two 5 (some .long) D Y E (LM ++ X)) {o : Int64 × Sta} : ∀ (s0 : Int64) (σ : Sta) (H : Heap) (locs : List Loc) (ls : Array Slot), f_X10_two_183 s0 σ = some o → va_P D vwCl (wd Y E σ 0 (LM ++ X)) H → va_S (AF E (LM ++ X).length s.heap.size) s.heap H locs → lv_has ls 5 [] → WL p l e rm_X10_two s m args below meth c (LM ++ X) Y D E o H locs (F0 m 183 ls [.long s0]) := by
  intro s0 σ H locs ls h hP hS hl
  unfold f_X10_two_183 at h
  obtain ⟨hC, hb, hml, hr, hlk, hD, hSW⟩ := id hF
  have hx := hC.1
  exact x_lret hF hP hS h dX10_two_183

def f_X10_two_195 (s0 : Int64) (σ : Sta) : Option (Int64 × Sta) :=
  some (s0, σ)
set_option maxHeartbeats 4000000 in
set_option maxRecDepth 100000 in
theorem t_X10_two_195 {l : Launch} {D : va_G} {Y : CYs} {E : Nat → Nat} {X : List Dsc} (hX : Lok (LM ++ X)) {p : Program} {e : Env} {s : State} {m : MethodId} {args : Array Value} {below : List Frame} {meth : Method} {c : Code} (hF : Fr p s m args meth c RX10 cX10_two 5 (some .long) D Y E (LM ++ X)) {o : Int64 × Sta} : ∀ (s0 : Int64) (σ : Sta) (H : Heap) (locs : List Loc) (ls : Array Slot), f_X10_two_195 s0 σ = some o → va_P D vwCl (wd Y E σ 0 (LM ++ X)) H → va_S (AF E (LM ++ X).length s.heap.size) s.heap H locs → lv_has ls 5 [] → WL p l e rm_X10_two s m args below meth c (LM ++ X) Y D E o H locs (F0 m 195 ls [.long s0]) := by
  intro s0 σ H locs ls h hP hS hl
  unfold f_X10_two_195 at h
  obtain ⟨hC, hb, hml, hr, hlk, hD, hSW⟩ := id hF
  have hx := hC.1
  exact x_lret hF hP hS h dX10_two_195

def f_X10_two_207 (s0 : Int64) (σ : Sta) : Option (Int64 × Sta) :=
  some (s0, σ)
set_option maxHeartbeats 4000000 in
set_option maxRecDepth 100000 in
theorem t_X10_two_207 {l : Launch} {D : va_G} {Y : CYs} {E : Nat → Nat} {X : List Dsc} (hX : Lok (LM ++ X)) {p : Program} {e : Env} {s : State} {m : MethodId} {args : Array Value} {below : List Frame} {meth : Method} {c : Code} (hF : Fr p s m args meth c RX10 cX10_two 5 (some .long) D Y E (LM ++ X)) {o : Int64 × Sta} : ∀ (s0 : Int64) (σ : Sta) (H : Heap) (locs : List Loc) (ls : Array Slot), f_X10_two_207 s0 σ = some o → va_P D vwCl (wd Y E σ 0 (LM ++ X)) H → va_S (AF E (LM ++ X).length s.heap.size) s.heap H locs → lv_has ls 5 [] → WL p l e rm_X10_two s m args below meth c (LM ++ X) Y D E o H locs (F0 m 207 ls [.long s0]) := by
  intro s0 σ H locs ls h hP hS hl
  unfold f_X10_two_207 at h
  obtain ⟨hC, hb, hml, hr, hlk, hD, hSW⟩ := id hF
  have hx := hC.1
  exact x_lret hF hP hS h dX10_two_207

def f_X10_two_219 (s0 : Int64) (σ : Sta) : Option (Int64 × Sta) :=
  some (s0, σ)
set_option maxHeartbeats 4000000 in
set_option maxRecDepth 100000 in
theorem t_X10_two_219 {l : Launch} {D : va_G} {Y : CYs} {E : Nat → Nat} {X : List Dsc} (hX : Lok (LM ++ X)) {p : Program} {e : Env} {s : State} {m : MethodId} {args : Array Value} {below : List Frame} {meth : Method} {c : Code} (hF : Fr p s m args meth c RX10 cX10_two 5 (some .long) D Y E (LM ++ X)) {o : Int64 × Sta} : ∀ (s0 : Int64) (σ : Sta) (H : Heap) (locs : List Loc) (ls : Array Slot), f_X10_two_219 s0 σ = some o → va_P D vwCl (wd Y E σ 0 (LM ++ X)) H → va_S (AF E (LM ++ X).length s.heap.size) s.heap H locs → lv_has ls 5 [] → WL p l e rm_X10_two s m args below meth c (LM ++ X) Y D E o H locs (F0 m 219 ls [.long s0]) := by
  intro s0 σ H locs ls h hP hS hl
  unfold f_X10_two_219 at h
  obtain ⟨hC, hb, hml, hr, hlk, hD, hSW⟩ := id hF
  have hx := hC.1
  exact x_lret hF hP hS h dX10_two_219

def f_X10_two_237 (s0 : Int64) (σ : Sta) : Option (Int64 × Sta) :=
  some (s0, σ)
set_option maxHeartbeats 4000000 in
set_option maxRecDepth 100000 in
theorem t_X10_two_237 {l : Launch} {D : va_G} {Y : CYs} {E : Nat → Nat} {X : List Dsc} (hX : Lok (LM ++ X)) {p : Program} {e : Env} {s : State} {m : MethodId} {args : Array Value} {below : List Frame} {meth : Method} {c : Code} (hF : Fr p s m args meth c RX10 cX10_two 5 (some .long) D Y E (LM ++ X)) {o : Int64 × Sta} : ∀ (s0 : Int64) (σ : Sta) (H : Heap) (locs : List Loc) (ls : Array Slot), f_X10_two_237 s0 σ = some o → va_P D vwCl (wd Y E σ 0 (LM ++ X)) H → va_S (AF E (LM ++ X).length s.heap.size) s.heap H locs → lv_has ls 5 [] → WL p l e rm_X10_two s m args below meth c (LM ++ X) Y D E o H locs (F0 m 237 ls [.long s0]) := by
  intro s0 σ H locs ls h hP hS hl
  unfold f_X10_two_237 at h
  obtain ⟨hC, hb, hml, hr, hlk, hD, hSW⟩ := id hF
  have hx := hC.1
  exact x_lret hF hP hS h dX10_two_237

def f_X10_two_236 (σ : Sta) : Option (Int64 × Sta) :=
  f_X10_two_237 0 σ
set_option maxHeartbeats 4000000 in
set_option maxRecDepth 100000 in
theorem t_X10_two_236 {l : Launch} {D : va_G} {Y : CYs} {E : Nat → Nat} {X : List Dsc} (hX : Lok (LM ++ X)) {p : Program} {e : Env} {s : State} {m : MethodId} {args : Array Value} {below : List Frame} {meth : Method} {c : Code} (hF : Fr p s m args meth c RX10 cX10_two 5 (some .long) D Y E (LM ++ X)) {o : Int64 × Sta} : ∀ (σ : Sta) (H : Heap) (locs : List Loc) (ls : Array Slot), f_X10_two_236 σ = some o → va_P D vwCl (wd Y E σ 0 (LM ++ X)) H → va_S (AF E (LM ++ X).length s.heap.size) s.heap H locs → lv_has ls 5 [] → WL p l e rm_X10_two s m args below meth c (LM ++ X) Y D E o H locs (F0 m 236 ls []) := by
  intro σ H locs ls h hP hS hl
  unfold f_X10_two_236 at h
  obtain ⟨hC, hb, hml, hr, hlk, hD, hSW⟩ := id hF
  have hx := hC.1
  refine lv_lconst (v := 0) hx hb dX10_two_236 (by decide) ?_
  exact t_X10_two_237 hX  hF 0 σ _ _ _ h hP hS (lv_sub hl [] rfl)

def f_X10_two_255 (s0 : Int64) (σ : Sta) : Option (Int64 × Sta) :=
  some (s0, σ)
set_option maxHeartbeats 4000000 in
set_option maxRecDepth 100000 in
theorem t_X10_two_255 {l : Launch} {D : va_G} {Y : CYs} {E : Nat → Nat} {X : List Dsc} (hX : Lok (LM ++ X)) {p : Program} {e : Env} {s : State} {m : MethodId} {args : Array Value} {below : List Frame} {meth : Method} {c : Code} (hF : Fr p s m args meth c RX10 cX10_two 5 (some .long) D Y E (LM ++ X)) {o : Int64 × Sta} : ∀ (s0 : Int64) (σ : Sta) (H : Heap) (locs : List Loc) (ls : Array Slot), f_X10_two_255 s0 σ = some o → va_P D vwCl (wd Y E σ 0 (LM ++ X)) H → va_S (AF E (LM ++ X).length s.heap.size) s.heap H locs → lv_has ls 5 [] → WL p l e rm_X10_two s m args below meth c (LM ++ X) Y D E o H locs (F0 m 255 ls [.long s0]) := by
  intro s0 σ H locs ls h hP hS hl
  unfold f_X10_two_255 at h
  obtain ⟨hC, hb, hml, hr, hlk, hD, hSW⟩ := id hF
  have hx := hC.1
  exact x_lret hF hP hS h dX10_two_255

def f_X10_two_250 (σ : Sta) : Option (Int64 × Sta) :=
  f_X10_two_255 1 σ
set_option maxHeartbeats 4000000 in
set_option maxRecDepth 100000 in
theorem t_X10_two_250 {l : Launch} {D : va_G} {Y : CYs} {E : Nat → Nat} {X : List Dsc} (hX : Lok (LM ++ X)) {p : Program} {e : Env} {s : State} {m : MethodId} {args : Array Value} {below : List Frame} {meth : Method} {c : Code} (hF : Fr p s m args meth c RX10 cX10_two 5 (some .long) D Y E (LM ++ X)) {o : Int64 × Sta} : ∀ (σ : Sta) (H : Heap) (locs : List Loc) (ls : Array Slot), f_X10_two_250 σ = some o → va_P D vwCl (wd Y E σ 0 (LM ++ X)) H → va_S (AF E (LM ++ X).length s.heap.size) s.heap H locs → lv_has ls 5 [] → WL p l e rm_X10_two s m args below meth c (LM ++ X) Y D E o H locs (F0 m 250 ls []) := by
  intro σ H locs ls h hP hS hl
  unfold f_X10_two_250 at h
  obtain ⟨hC, hb, hml, hr, hlk, hD, hSW⟩ := id hF
  have hx := hC.1
  refine lv_lconst (v := 1) hx hb dX10_two_250 (by decide) ?_
  refine lv_goto (tgt := 255) hx hb dX10_two_251 (by decide) ?_
  exact t_X10_two_255 hX  hF 1 σ _ _ _ h hP hS (lv_sub hl [] rfl)

def f_X10_two (a0 : Int32) (a1 : Int64) (a3 : Int64) (σ : Sta) : Option (Int64 × Sta) :=
  if a0 = 10 then
    some (a1 + a3, σ)
  else if a0 = 11 then
    some (a1 - a3, σ)
  else if a0 = 12 then
    some (a1 * a3, σ)
  else if a0 = 13 then
    if lg_cmp a3 0 = 0 then
      f_X10_two_133 0 σ
    else
      if a3 = 0 then none else (
      f_X10_two_133 (a1 / a3) σ)
  else if a0 = 14 then
    if lg_cmp a3 0 = 0 then
      f_X10_two_147 0 σ
    else
      if a3 = 0 then none else (
      f_X10_two_147 (a1 - a1 / a3 * a3) σ)
  else if a0 = 15 then
    some (if a3 < a1 then a1 else a3, σ)
  else if a0 = 16 then
    some (if a3 < a1 then a1 else a3, σ)
  else if a0 = 17 then
    some (if a3 < a1 then a1 else a3, σ)
  else if a0 = 18 then
    some (if a3 < a1 then a1 else a3, σ)
  else if a0 = 19 then
    some (if a3 < a1 then a1 else a3, σ)
  else if a0 = 20 then
    if lg_cmp a1 a3 = 0 then
      f_X10_two_159 1 σ
    else
      f_X10_two_159 0 σ
  else if a0 = 21 then
    if lg_cmp a1 a3 = 0 then
      f_X10_two_171 0 σ
    else
      f_X10_two_171 1 σ
  else if a0 = 22 then
    if 0 ≤ lg_cmp a1 a3 then
      f_X10_two_183 0 σ
    else
      f_X10_two_183 1 σ
  else if a0 = 23 then
    if lg_cmp a1 a3 ≤ 0 then
      f_X10_two_195 0 σ
    else
      f_X10_two_195 1 σ
  else if a0 = 24 then
    if 0 < lg_cmp a1 a3 then
      f_X10_two_207 0 σ
    else
      f_X10_two_207 1 σ
  else if a0 = 25 then
    if lg_cmp a1 a3 < 0 then
      f_X10_two_219 0 σ
    else
      f_X10_two_219 1 σ
  else if a0 = 26 then
    some (if a3 < a1 then a1 else a3, σ)
  else if a0 = 27 then
    some (if a3 < a1 then a1 else a3, σ)
  else if a0 = 28 then
    some (if a3 < a1 then a1 else a3, σ)
  else if a0 = 29 then
    some (if a3 < a1 then a1 else a3, σ)
  else if a0 = 30 then
    if lg_cmp a1 0 = 0 then
      f_X10_two_236 σ
    else
      if lg_cmp a3 0 = 0 then
        f_X10_two_236 σ
      else
        f_X10_two_237 1 σ
  else if a0 = 31 then
    if lg_cmp a1 0 = 0 then
      if lg_cmp a3 0 = 0 then
        f_X10_two_255 0 σ
      else
        f_X10_two_250 σ
    else
      f_X10_two_250 σ
  else if a0 = 32 then
    some (if a3 < a1 then a3 else a1, σ)
  else 
    some (if a3 < a1 then a1 else a3, σ)
set_option maxHeartbeats 4000000 in
set_option maxRecDepth 100000 in
theorem c_X10_two {l : Launch} {D : va_G} {Y : CYs} {E : Nat → Nat} {X : List Dsc} (hX : Lok (LM ++ X)) {a0 : Int32} {a1 : Int64} {a3 : Int64} {σ : Sta} {o : Int64 × Sta} (h : f_X10_two a0 a1 a3 σ = some o) : ML l yX10_two (Cond.code yX10_two cX10_two 5 (some .long) :: gW) rm_X10_two (LM ++ X) Y D E [.int a0, .long a1, .long a3] σ o := by
  intro sz
  refine Met_of (Qc := fun sz => QL (LM ++ X) Y D E sz o) (by decide) (Nat.le_of_ble_eq_true rfl) (fun p e s m args below meth c hF hP ls hl => ?_) sz
  have hS : va_S (AF E (LM ++ X).length s.heap.size) s.heap s.heap [] := va_S.rf
  have hl : lv_has ls 5 [(0, .int a0), (1, .long a1), (3, .long a3)] := hl
  show WL p l e rm_X10_two s m args below meth c (LM ++ X) Y D E o s.heap [] (F0 m 0 ls [])
  unfold f_X10_two at h
  obtain ⟨hC, hb, hml, hr, hlk, hD, hSW⟩ := id hF
  have hx := hC.1
  refine lv_iload_n hx hb dX10_two_0 rfl (lv_at hl 0 rfl) ?_
  by_cases c1 : a0 = 10
  · have h := of_t h c1
    refine lv_tableIn (tgt := 108) hx hb dX10_two_1 (by rw [c1]; try decide) (by rw [c1]; try decide) (by rw [c1]; try rfl) (by decide) ?_
    refine lv_lload_n hx hb dX10_two_108 rfl (lv_at hl 1 rfl) ?_
    refine lv_lload_n hx hb dX10_two_109 rfl (lv_at hl 2 rfl) ?_
    refine lv_ladd hx hb dX10_two_110 ?_
    exact x_lret hF hP hS h dX10_two_111
  · have h := of_f h c1
    by_cases c2 : a0 = 11
    · have h := of_t h c2
      refine lv_tableIn (tgt := 112) hx hb dX10_two_1 (by rw [c2]; try decide) (by rw [c2]; try decide) (by rw [c2]; try rfl) (by decide) ?_
      refine lv_lload_n hx hb dX10_two_112 rfl (lv_at hl 1 rfl) ?_
      refine lv_lload_n hx hb dX10_two_113 rfl (lv_at hl 2 rfl) ?_
      refine lv_lsub hx hb dX10_two_114 ?_
      exact x_lret hF hP hS h dX10_two_115
    · have h := of_f h c2
      by_cases c3 : a0 = 12
      · have h := of_t h c3
        refine lv_tableIn (tgt := 116) hx hb dX10_two_1 (by rw [c3]; try decide) (by rw [c3]; try decide) (by rw [c3]; try rfl) (by decide) ?_
        refine lv_lload_n hx hb dX10_two_116 rfl (lv_at hl 1 rfl) ?_
        refine lv_lload_n hx hb dX10_two_117 rfl (lv_at hl 2 rfl) ?_
        refine lv_lmul hx hb dX10_two_118 ?_
        exact x_lret hF hP hS h dX10_two_119
      · have h := of_f h c3
        by_cases c4 : a0 = 13
        · have h := of_t h c4
          refine lv_tableIn (tgt := 120) hx hb dX10_two_1 (by rw [c4]; try decide) (by rw [c4]; try decide) (by rw [c4]; try rfl) (by decide) ?_
          refine lv_lload_n hx hb dX10_two_120 rfl (lv_at hl 2 rfl) ?_
          refine lv_lconst (v := 0) hx hb dX10_two_121 (by decide) ?_
          refine W.lcmp hx hb dX10_two_122 ?_
          refine lv_if_ne (tgt := 130) hx hb dX10_two_123 (by decide) (fun c5 => ?_) (fun c5 => ?_)
          · have h := of_f h c5
            refine lv_lload_n hx hb dX10_two_130 rfl (lv_at hl 1 rfl) ?_
            refine lv_lload_n hx hb dX10_two_131 rfl (lv_at hl 2 rfl) ?_
            obtain ⟨g6, h⟩ := of_gd h
            refine lv_ldiv hx hb dX10_two_132 g6 ?_
            exact t_X10_two_133 hX  hF (a1 / a3) σ _ _ _ h hP hS (lv_sub hl [] rfl)
          · have h := of_t h c5
            refine lv_lconst (v := 0) hx hb dX10_two_126 (by decide) ?_
            refine lv_goto (tgt := 133) hx hb dX10_two_127 (by decide) ?_
            exact t_X10_two_133 hX  hF 0 σ _ _ _ h hP hS (lv_sub hl [] rfl)
        · have h := of_f h c4
          by_cases c7 : a0 = 14
          · have h := of_t h c7
            refine lv_tableIn (tgt := 134) hx hb dX10_two_1 (by rw [c7]; try decide) (by rw [c7]; try decide) (by rw [c7]; try rfl) (by decide) ?_
            refine lv_lload_n hx hb dX10_two_134 rfl (lv_at hl 2 rfl) ?_
            refine lv_lconst (v := 0) hx hb dX10_two_135 (by decide) ?_
            refine W.lcmp hx hb dX10_two_136 ?_
            refine lv_if_ne (tgt := 144) hx hb dX10_two_137 (by decide) (fun c8 => ?_) (fun c8 => ?_)
            · have h := of_f h c8
              refine lv_lload_n hx hb dX10_two_144 rfl (lv_at hl 1 rfl) ?_
              refine lv_lload_n hx hb dX10_two_145 rfl (lv_at hl 2 rfl) ?_
              obtain ⟨g9, h⟩ := of_gd h
              refine lv_lrem hx hb dX10_two_146 g9 ?_
              exact t_X10_two_147 hX  hF (a1 - a1 / a3 * a3) σ _ _ _ h hP hS (lv_sub hl [] rfl)
            · have h := of_t h c8
              refine lv_lconst (v := 0) hx hb dX10_two_140 (by decide) ?_
              refine lv_goto (tgt := 147) hx hb dX10_two_141 (by decide) ?_
              exact t_X10_two_147 hX  hF 0 σ _ _ _ h hP hS (lv_sub hl [] rfl)
          · have h := of_f h c7
            by_cases c10 : a0 = 15
            · have h := of_t h c10
              refine lv_tableIn (tgt := 262) hx hb dX10_two_1 (by rw [c10]; try decide) (by rw [c10]; try decide) (by rw [c10]; try rfl) (by decide) ?_
              refine lv_lload_n hx hb dX10_two_262 rfl (lv_at hl 1 rfl) ?_
              refine lv_lload_n hx hb dX10_two_263 rfl (lv_at hl 2 rfl) ?_
              refine va_mmax_long hx hb (by rw [hml]; exact hl.1.symm) hC.2.2.1 (hC.2.1 (Cond.methodLink RX10 380 Lib.MathLoose.max_long.x) (gw_t (tb7 (List.mem_of_getElem? (i := 199) rfl)) rfl)) (hC.2.1 (Cond.static Lib.MathLoose.max_long.x) (gw_t (tb4 (List.mem_of_getElem? (i := 23) rfl)) rfl)) (hC.2.1 (Cond.initialized "java/lang/Math") (gw_t (tb1 (List.mem_of_getElem? (i := 13) rfl)) rfl)) (hC.2.1 (Cond.code Lib.MathLoose.max_long.x Lib.MathLoose.max_long.code 4 (some .long)) (gw_t (tb4 (List.mem_of_getElem? (i := 24) rfl)) rfl)) (Nat.le_of_ble_eq_true rfl) (Nat.le_of_ble_eq_true rfl) (Nat.zero_le _) (Nat.zero_le _) dX10_two_264 ?_
              exact x_lret hF hP hS h dX10_two_267
            · have h := of_f h c10
              by_cases c11 : a0 = 16
              · have h := of_t h c11
                refine lv_tableIn (tgt := 262) hx hb dX10_two_1 (by rw [c11]; try decide) (by rw [c11]; try decide) (by rw [c11]; try rfl) (by decide) ?_
                refine lv_lload_n hx hb dX10_two_262 rfl (lv_at hl 1 rfl) ?_
                refine lv_lload_n hx hb dX10_two_263 rfl (lv_at hl 2 rfl) ?_
                refine va_mmax_long hx hb (by rw [hml]; exact hl.1.symm) hC.2.2.1 (hC.2.1 (Cond.methodLink RX10 380 Lib.MathLoose.max_long.x) (gw_t (tb7 (List.mem_of_getElem? (i := 199) rfl)) rfl)) (hC.2.1 (Cond.static Lib.MathLoose.max_long.x) (gw_t (tb4 (List.mem_of_getElem? (i := 23) rfl)) rfl)) (hC.2.1 (Cond.initialized "java/lang/Math") (gw_t (tb1 (List.mem_of_getElem? (i := 13) rfl)) rfl)) (hC.2.1 (Cond.code Lib.MathLoose.max_long.x Lib.MathLoose.max_long.code 4 (some .long)) (gw_t (tb4 (List.mem_of_getElem? (i := 24) rfl)) rfl)) (Nat.le_of_ble_eq_true rfl) (Nat.le_of_ble_eq_true rfl) (Nat.zero_le _) (Nat.zero_le _) dX10_two_264 ?_
                exact x_lret hF hP hS h dX10_two_267
              · have h := of_f h c11
                by_cases c12 : a0 = 17
                · have h := of_t h c12
                  refine lv_tableIn (tgt := 262) hx hb dX10_two_1 (by rw [c12]; try decide) (by rw [c12]; try decide) (by rw [c12]; try rfl) (by decide) ?_
                  refine lv_lload_n hx hb dX10_two_262 rfl (lv_at hl 1 rfl) ?_
                  refine lv_lload_n hx hb dX10_two_263 rfl (lv_at hl 2 rfl) ?_
                  refine va_mmax_long hx hb (by rw [hml]; exact hl.1.symm) hC.2.2.1 (hC.2.1 (Cond.methodLink RX10 380 Lib.MathLoose.max_long.x) (gw_t (tb7 (List.mem_of_getElem? (i := 199) rfl)) rfl)) (hC.2.1 (Cond.static Lib.MathLoose.max_long.x) (gw_t (tb4 (List.mem_of_getElem? (i := 23) rfl)) rfl)) (hC.2.1 (Cond.initialized "java/lang/Math") (gw_t (tb1 (List.mem_of_getElem? (i := 13) rfl)) rfl)) (hC.2.1 (Cond.code Lib.MathLoose.max_long.x Lib.MathLoose.max_long.code 4 (some .long)) (gw_t (tb4 (List.mem_of_getElem? (i := 24) rfl)) rfl)) (Nat.le_of_ble_eq_true rfl) (Nat.le_of_ble_eq_true rfl) (Nat.zero_le _) (Nat.zero_le _) dX10_two_264 ?_
                  exact x_lret hF hP hS h dX10_two_267
                · have h := of_f h c12
                  by_cases c13 : a0 = 18
                  · have h := of_t h c13
                    refine lv_tableIn (tgt := 262) hx hb dX10_two_1 (by rw [c13]; try decide) (by rw [c13]; try decide) (by rw [c13]; try rfl) (by decide) ?_
                    refine lv_lload_n hx hb dX10_two_262 rfl (lv_at hl 1 rfl) ?_
                    refine lv_lload_n hx hb dX10_two_263 rfl (lv_at hl 2 rfl) ?_
                    refine va_mmax_long hx hb (by rw [hml]; exact hl.1.symm) hC.2.2.1 (hC.2.1 (Cond.methodLink RX10 380 Lib.MathLoose.max_long.x) (gw_t (tb7 (List.mem_of_getElem? (i := 199) rfl)) rfl)) (hC.2.1 (Cond.static Lib.MathLoose.max_long.x) (gw_t (tb4 (List.mem_of_getElem? (i := 23) rfl)) rfl)) (hC.2.1 (Cond.initialized "java/lang/Math") (gw_t (tb1 (List.mem_of_getElem? (i := 13) rfl)) rfl)) (hC.2.1 (Cond.code Lib.MathLoose.max_long.x Lib.MathLoose.max_long.code 4 (some .long)) (gw_t (tb4 (List.mem_of_getElem? (i := 24) rfl)) rfl)) (Nat.le_of_ble_eq_true rfl) (Nat.le_of_ble_eq_true rfl) (Nat.zero_le _) (Nat.zero_le _) dX10_two_264 ?_
                    exact x_lret hF hP hS h dX10_two_267
                  · have h := of_f h c13
                    by_cases c14 : a0 = 19
                    · have h := of_t h c14
                      refine lv_tableIn (tgt := 262) hx hb dX10_two_1 (by rw [c14]; try decide) (by rw [c14]; try decide) (by rw [c14]; try rfl) (by decide) ?_
                      refine lv_lload_n hx hb dX10_two_262 rfl (lv_at hl 1 rfl) ?_
                      refine lv_lload_n hx hb dX10_two_263 rfl (lv_at hl 2 rfl) ?_
                      refine va_mmax_long hx hb (by rw [hml]; exact hl.1.symm) hC.2.2.1 (hC.2.1 (Cond.methodLink RX10 380 Lib.MathLoose.max_long.x) (gw_t (tb7 (List.mem_of_getElem? (i := 199) rfl)) rfl)) (hC.2.1 (Cond.static Lib.MathLoose.max_long.x) (gw_t (tb4 (List.mem_of_getElem? (i := 23) rfl)) rfl)) (hC.2.1 (Cond.initialized "java/lang/Math") (gw_t (tb1 (List.mem_of_getElem? (i := 13) rfl)) rfl)) (hC.2.1 (Cond.code Lib.MathLoose.max_long.x Lib.MathLoose.max_long.code 4 (some .long)) (gw_t (tb4 (List.mem_of_getElem? (i := 24) rfl)) rfl)) (Nat.le_of_ble_eq_true rfl) (Nat.le_of_ble_eq_true rfl) (Nat.zero_le _) (Nat.zero_le _) dX10_two_264 ?_
                      exact x_lret hF hP hS h dX10_two_267
                    · have h := of_f h c14
                      by_cases c15 : a0 = 20
                      · have h := of_t h c15
                        refine lv_tableIn (tgt := 148) hx hb dX10_two_1 (by rw [c15]; try decide) (by rw [c15]; try decide) (by rw [c15]; try rfl) (by decide) ?_
                        refine lv_lload_n hx hb dX10_two_148 rfl (lv_at hl 1 rfl) ?_
                        refine lv_lload_n hx hb dX10_two_149 rfl (lv_at hl 2 rfl) ?_
                        refine W.lcmp hx hb dX10_two_150 ?_
                        refine lv_if_ne (tgt := 158) hx hb dX10_two_151 (by decide) (fun c16 => ?_) (fun c16 => ?_)
                        · have h := of_f h c16
                          refine lv_lconst (v := 0) hx hb dX10_two_158 (by decide) ?_
                          exact t_X10_two_159 hX  hF 0 σ _ _ _ h hP hS (lv_sub hl [] rfl)
                        · have h := of_t h c16
                          refine lv_lconst (v := 1) hx hb dX10_two_154 (by decide) ?_
                          refine lv_goto (tgt := 159) hx hb dX10_two_155 (by decide) ?_
                          exact t_X10_two_159 hX  hF 1 σ _ _ _ h hP hS (lv_sub hl [] rfl)
                      · have h := of_f h c15
                        by_cases c17 : a0 = 21
                        · have h := of_t h c17
                          refine lv_tableIn (tgt := 160) hx hb dX10_two_1 (by rw [c17]; try decide) (by rw [c17]; try decide) (by rw [c17]; try rfl) (by decide) ?_
                          refine lv_lload_n hx hb dX10_two_160 rfl (lv_at hl 1 rfl) ?_
                          refine lv_lload_n hx hb dX10_two_161 rfl (lv_at hl 2 rfl) ?_
                          refine W.lcmp hx hb dX10_two_162 ?_
                          refine lv_if_eq (tgt := 170) hx hb dX10_two_163 (by decide) (fun c18 => ?_) (fun c18 => ?_)
                          · have h := of_t h c18
                            refine lv_lconst (v := 0) hx hb dX10_two_170 (by decide) ?_
                            exact t_X10_two_171 hX  hF 0 σ _ _ _ h hP hS (lv_sub hl [] rfl)
                          · have h := of_f h c18
                            refine lv_lconst (v := 1) hx hb dX10_two_166 (by decide) ?_
                            refine lv_goto (tgt := 171) hx hb dX10_two_167 (by decide) ?_
                            exact t_X10_two_171 hX  hF 1 σ _ _ _ h hP hS (lv_sub hl [] rfl)
                        · have h := of_f h c17
                          by_cases c19 : a0 = 22
                          · have h := of_t h c19
                            refine lv_tableIn (tgt := 172) hx hb dX10_two_1 (by rw [c19]; try decide) (by rw [c19]; try decide) (by rw [c19]; try rfl) (by decide) ?_
                            refine lv_lload_n hx hb dX10_two_172 rfl (lv_at hl 1 rfl) ?_
                            refine lv_lload_n hx hb dX10_two_173 rfl (lv_at hl 2 rfl) ?_
                            refine W.lcmp hx hb dX10_two_174 ?_
                            refine lv_if_ge (tgt := 182) hx hb dX10_two_175 (by decide) (fun c20 => ?_) (fun c20 => ?_)
                            · have h := of_t h c20
                              refine lv_lconst (v := 0) hx hb dX10_two_182 (by decide) ?_
                              exact t_X10_two_183 hX  hF 0 σ _ _ _ h hP hS (lv_sub hl [] rfl)
                            · have h := of_f h c20
                              refine lv_lconst (v := 1) hx hb dX10_two_178 (by decide) ?_
                              refine lv_goto (tgt := 183) hx hb dX10_two_179 (by decide) ?_
                              exact t_X10_two_183 hX  hF 1 σ _ _ _ h hP hS (lv_sub hl [] rfl)
                          · have h := of_f h c19
                            by_cases c21 : a0 = 23
                            · have h := of_t h c21
                              refine lv_tableIn (tgt := 184) hx hb dX10_two_1 (by rw [c21]; try decide) (by rw [c21]; try decide) (by rw [c21]; try rfl) (by decide) ?_
                              refine lv_lload_n hx hb dX10_two_184 rfl (lv_at hl 1 rfl) ?_
                              refine lv_lload_n hx hb dX10_two_185 rfl (lv_at hl 2 rfl) ?_
                              refine W.lcmp hx hb dX10_two_186 ?_
                              refine lv_if_le (tgt := 194) hx hb dX10_two_187 (by decide) (fun c22 => ?_) (fun c22 => ?_)
                              · have h := of_t h c22
                                refine lv_lconst (v := 0) hx hb dX10_two_194 (by decide) ?_
                                exact t_X10_two_195 hX  hF 0 σ _ _ _ h hP hS (lv_sub hl [] rfl)
                              · have h := of_f h c22
                                refine lv_lconst (v := 1) hx hb dX10_two_190 (by decide) ?_
                                refine lv_goto (tgt := 195) hx hb dX10_two_191 (by decide) ?_
                                exact t_X10_two_195 hX  hF 1 σ _ _ _ h hP hS (lv_sub hl [] rfl)
                            · have h := of_f h c21
                              by_cases c23 : a0 = 24
                              · have h := of_t h c23
                                refine lv_tableIn (tgt := 196) hx hb dX10_two_1 (by rw [c23]; try decide) (by rw [c23]; try decide) (by rw [c23]; try rfl) (by decide) ?_
                                refine lv_lload_n hx hb dX10_two_196 rfl (lv_at hl 1 rfl) ?_
                                refine lv_lload_n hx hb dX10_two_197 rfl (lv_at hl 2 rfl) ?_
                                refine W.lcmp hx hb dX10_two_198 ?_
                                refine lv_if_gt (tgt := 206) hx hb dX10_two_199 (by decide) (fun c24 => ?_) (fun c24 => ?_)
                                · have h := of_t h c24
                                  refine lv_lconst (v := 0) hx hb dX10_two_206 (by decide) ?_
                                  exact t_X10_two_207 hX  hF 0 σ _ _ _ h hP hS (lv_sub hl [] rfl)
                                · have h := of_f h c24
                                  refine lv_lconst (v := 1) hx hb dX10_two_202 (by decide) ?_
                                  refine lv_goto (tgt := 207) hx hb dX10_two_203 (by decide) ?_
                                  exact t_X10_two_207 hX  hF 1 σ _ _ _ h hP hS (lv_sub hl [] rfl)
                              · have h := of_f h c23
                                by_cases c25 : a0 = 25
                                · have h := of_t h c25
                                  refine lv_tableIn (tgt := 208) hx hb dX10_two_1 (by rw [c25]; try decide) (by rw [c25]; try decide) (by rw [c25]; try rfl) (by decide) ?_
                                  refine lv_lload_n hx hb dX10_two_208 rfl (lv_at hl 1 rfl) ?_
                                  refine lv_lload_n hx hb dX10_two_209 rfl (lv_at hl 2 rfl) ?_
                                  refine W.lcmp hx hb dX10_two_210 ?_
                                  refine lv_if_lt (tgt := 218) hx hb dX10_two_211 (by decide) (fun c26 => ?_) (fun c26 => ?_)
                                  · have h := of_t h c26
                                    refine lv_lconst (v := 0) hx hb dX10_two_218 (by decide) ?_
                                    exact t_X10_two_219 hX  hF 0 σ _ _ _ h hP hS (lv_sub hl [] rfl)
                                  · have h := of_f h c26
                                    refine lv_lconst (v := 1) hx hb dX10_two_214 (by decide) ?_
                                    refine lv_goto (tgt := 219) hx hb dX10_two_215 (by decide) ?_
                                    exact t_X10_two_219 hX  hF 1 σ _ _ _ h hP hS (lv_sub hl [] rfl)
                                · have h := of_f h c25
                                  by_cases c27 : a0 = 26
                                  · have h := of_t h c27
                                    refine lv_tableIn (tgt := 262) hx hb dX10_two_1 (by rw [c27]; try decide) (by rw [c27]; try decide) (by rw [c27]; try rfl) (by decide) ?_
                                    refine lv_lload_n hx hb dX10_two_262 rfl (lv_at hl 1 rfl) ?_
                                    refine lv_lload_n hx hb dX10_two_263 rfl (lv_at hl 2 rfl) ?_
                                    refine va_mmax_long hx hb (by rw [hml]; exact hl.1.symm) hC.2.2.1 (hC.2.1 (Cond.methodLink RX10 380 Lib.MathLoose.max_long.x) (gw_t (tb7 (List.mem_of_getElem? (i := 199) rfl)) rfl)) (hC.2.1 (Cond.static Lib.MathLoose.max_long.x) (gw_t (tb4 (List.mem_of_getElem? (i := 23) rfl)) rfl)) (hC.2.1 (Cond.initialized "java/lang/Math") (gw_t (tb1 (List.mem_of_getElem? (i := 13) rfl)) rfl)) (hC.2.1 (Cond.code Lib.MathLoose.max_long.x Lib.MathLoose.max_long.code 4 (some .long)) (gw_t (tb4 (List.mem_of_getElem? (i := 24) rfl)) rfl)) (Nat.le_of_ble_eq_true rfl) (Nat.le_of_ble_eq_true rfl) (Nat.zero_le _) (Nat.zero_le _) dX10_two_264 ?_
                                    exact x_lret hF hP hS h dX10_two_267
                                  · have h := of_f h c27
                                    by_cases c28 : a0 = 27
                                    · have h := of_t h c28
                                      refine lv_tableIn (tgt := 262) hx hb dX10_two_1 (by rw [c28]; try decide) (by rw [c28]; try decide) (by rw [c28]; try rfl) (by decide) ?_
                                      refine lv_lload_n hx hb dX10_two_262 rfl (lv_at hl 1 rfl) ?_
                                      refine lv_lload_n hx hb dX10_two_263 rfl (lv_at hl 2 rfl) ?_
                                      refine va_mmax_long hx hb (by rw [hml]; exact hl.1.symm) hC.2.2.1 (hC.2.1 (Cond.methodLink RX10 380 Lib.MathLoose.max_long.x) (gw_t (tb7 (List.mem_of_getElem? (i := 199) rfl)) rfl)) (hC.2.1 (Cond.static Lib.MathLoose.max_long.x) (gw_t (tb4 (List.mem_of_getElem? (i := 23) rfl)) rfl)) (hC.2.1 (Cond.initialized "java/lang/Math") (gw_t (tb1 (List.mem_of_getElem? (i := 13) rfl)) rfl)) (hC.2.1 (Cond.code Lib.MathLoose.max_long.x Lib.MathLoose.max_long.code 4 (some .long)) (gw_t (tb4 (List.mem_of_getElem? (i := 24) rfl)) rfl)) (Nat.le_of_ble_eq_true rfl) (Nat.le_of_ble_eq_true rfl) (Nat.zero_le _) (Nat.zero_le _) dX10_two_264 ?_
                                      exact x_lret hF hP hS h dX10_two_267
                                    · have h := of_f h c28
                                      by_cases c29 : a0 = 28
                                      · have h := of_t h c29
                                        refine lv_tableIn (tgt := 262) hx hb dX10_two_1 (by rw [c29]; try decide) (by rw [c29]; try decide) (by rw [c29]; try rfl) (by decide) ?_
                                        refine lv_lload_n hx hb dX10_two_262 rfl (lv_at hl 1 rfl) ?_
                                        refine lv_lload_n hx hb dX10_two_263 rfl (lv_at hl 2 rfl) ?_
                                        refine va_mmax_long hx hb (by rw [hml]; exact hl.1.symm) hC.2.2.1 (hC.2.1 (Cond.methodLink RX10 380 Lib.MathLoose.max_long.x) (gw_t (tb7 (List.mem_of_getElem? (i := 199) rfl)) rfl)) (hC.2.1 (Cond.static Lib.MathLoose.max_long.x) (gw_t (tb4 (List.mem_of_getElem? (i := 23) rfl)) rfl)) (hC.2.1 (Cond.initialized "java/lang/Math") (gw_t (tb1 (List.mem_of_getElem? (i := 13) rfl)) rfl)) (hC.2.1 (Cond.code Lib.MathLoose.max_long.x Lib.MathLoose.max_long.code 4 (some .long)) (gw_t (tb4 (List.mem_of_getElem? (i := 24) rfl)) rfl)) (Nat.le_of_ble_eq_true rfl) (Nat.le_of_ble_eq_true rfl) (Nat.zero_le _) (Nat.zero_le _) dX10_two_264 ?_
                                        exact x_lret hF hP hS h dX10_two_267
                                      · have h := of_f h c29
                                        by_cases c30 : a0 = 29
                                        · have h := of_t h c30
                                          refine lv_tableIn (tgt := 262) hx hb dX10_two_1 (by rw [c30]; try decide) (by rw [c30]; try decide) (by rw [c30]; try rfl) (by decide) ?_
                                          refine lv_lload_n hx hb dX10_two_262 rfl (lv_at hl 1 rfl) ?_
                                          refine lv_lload_n hx hb dX10_two_263 rfl (lv_at hl 2 rfl) ?_
                                          refine va_mmax_long hx hb (by rw [hml]; exact hl.1.symm) hC.2.2.1 (hC.2.1 (Cond.methodLink RX10 380 Lib.MathLoose.max_long.x) (gw_t (tb7 (List.mem_of_getElem? (i := 199) rfl)) rfl)) (hC.2.1 (Cond.static Lib.MathLoose.max_long.x) (gw_t (tb4 (List.mem_of_getElem? (i := 23) rfl)) rfl)) (hC.2.1 (Cond.initialized "java/lang/Math") (gw_t (tb1 (List.mem_of_getElem? (i := 13) rfl)) rfl)) (hC.2.1 (Cond.code Lib.MathLoose.max_long.x Lib.MathLoose.max_long.code 4 (some .long)) (gw_t (tb4 (List.mem_of_getElem? (i := 24) rfl)) rfl)) (Nat.le_of_ble_eq_true rfl) (Nat.le_of_ble_eq_true rfl) (Nat.zero_le _) (Nat.zero_le _) dX10_two_264 ?_
                                          exact x_lret hF hP hS h dX10_two_267
                                        · have h := of_f h c30
                                          by_cases c31 : a0 = 30
                                          · have h := of_t h c31
                                            refine lv_tableIn (tgt := 220) hx hb dX10_two_1 (by rw [c31]; try decide) (by rw [c31]; try decide) (by rw [c31]; try rfl) (by decide) ?_
                                            refine lv_lload_n hx hb dX10_two_220 rfl (lv_at hl 1 rfl) ?_
                                            refine lv_lconst (v := 0) hx hb dX10_two_221 (by decide) ?_
                                            refine W.lcmp hx hb dX10_two_222 ?_
                                            refine lv_if_eq (tgt := 236) hx hb dX10_two_223 (by decide) (fun c32 => ?_) (fun c32 => ?_)
                                            · have h := of_t h c32
                                              exact t_X10_two_236 hX  hF σ _ _ _ h hP hS (lv_sub hl [] rfl)
                                            · have h := of_f h c32
                                              refine lv_lload_n hx hb dX10_two_226 rfl (lv_at hl 2 rfl) ?_
                                              refine lv_lconst (v := 0) hx hb dX10_two_227 (by decide) ?_
                                              refine W.lcmp hx hb dX10_two_228 ?_
                                              refine lv_if_eq (tgt := 236) hx hb dX10_two_229 (by decide) (fun c33 => ?_) (fun c33 => ?_)
                                              · have h := of_t h c33
                                                exact t_X10_two_236 hX  hF σ _ _ _ h hP hS (lv_sub hl [] rfl)
                                              · have h := of_f h c33
                                                refine lv_lconst (v := 1) hx hb dX10_two_232 (by decide) ?_
                                                refine lv_goto (tgt := 237) hx hb dX10_two_233 (by decide) ?_
                                                exact t_X10_two_237 hX  hF 1 σ _ _ _ h hP hS (lv_sub hl [] rfl)
                                          · have h := of_f h c31
                                            by_cases c34 : a0 = 31
                                            · have h := of_t h c34
                                              refine lv_tableIn (tgt := 238) hx hb dX10_two_1 (by rw [c34]; try decide) (by rw [c34]; try decide) (by rw [c34]; try rfl) (by decide) ?_
                                              refine lv_lload_n hx hb dX10_two_238 rfl (lv_at hl 1 rfl) ?_
                                              refine lv_lconst (v := 0) hx hb dX10_two_239 (by decide) ?_
                                              refine W.lcmp hx hb dX10_two_240 ?_
                                              refine lv_if_ne (tgt := 250) hx hb dX10_two_241 (by decide) (fun c35 => ?_) (fun c35 => ?_)
                                              · have h := of_f h c35
                                                exact t_X10_two_250 hX  hF σ _ _ _ h hP hS (lv_sub hl [] rfl)
                                              · have h := of_t h c35
                                                refine lv_lload_n hx hb dX10_two_244 rfl (lv_at hl 2 rfl) ?_
                                                refine lv_lconst (v := 0) hx hb dX10_two_245 (by decide) ?_
                                                refine W.lcmp hx hb dX10_two_246 ?_
                                                refine lv_if_eq (tgt := 254) hx hb dX10_two_247 (by decide) (fun c36 => ?_) (fun c36 => ?_)
                                                · have h := of_t h c36
                                                  refine lv_lconst (v := 0) hx hb dX10_two_254 (by decide) ?_
                                                  exact t_X10_two_255 hX  hF 0 σ _ _ _ h hP hS (lv_sub hl [] rfl)
                                                · have h := of_f h c36
                                                  exact t_X10_two_250 hX  hF σ _ _ _ h hP hS (lv_sub hl [] rfl)
                                            · have h := of_f h c34
                                              by_cases c37 : a0 = 32
                                              · have h := of_t h c37
                                                refine lv_tableIn (tgt := 256) hx hb dX10_two_1 (by rw [c37]; try decide) (by rw [c37]; try decide) (by rw [c37]; try rfl) (by decide) ?_
                                                refine lv_lload_n hx hb dX10_two_256 rfl (lv_at hl 1 rfl) ?_
                                                refine lv_lload_n hx hb dX10_two_257 rfl (lv_at hl 2 rfl) ?_
                                                refine va_mmin_long hx hb (by rw [hml]; exact hl.1.symm) hC.2.2.1 (hC.2.1 (Cond.methodLink RX10 374 Lib.MathLoose.min_long.x) (gw_t (tb7 (List.mem_of_getElem? (i := 198) rfl)) rfl)) (hC.2.1 (Cond.static Lib.MathLoose.min_long.x) (gw_t (tb4 (List.mem_of_getElem? (i := 20) rfl)) rfl)) (hC.2.1 (Cond.initialized "java/lang/Math") (gw_t (tb1 (List.mem_of_getElem? (i := 13) rfl)) rfl)) (hC.2.1 (Cond.code Lib.MathLoose.min_long.x Lib.MathLoose.min_long.code 4 (some .long)) (gw_t (tb4 (List.mem_of_getElem? (i := 21) rfl)) rfl)) (Nat.le_of_ble_eq_true rfl) (Nat.le_of_ble_eq_true rfl) (Nat.zero_le _) (Nat.zero_le _) dX10_two_258 ?_
                                                exact x_lret hF hP hS h dX10_two_261
                                              · have h := of_f h c37
                                                refine lv_tableOut (tgt := 262) hx hb dX10_two_1 (by have nc1 := lv_neT (a := 10) c1 (by decide); have nc2 := lv_neT (a := 11) c2 (by decide); have nc3 := lv_neT (a := 12) c3 (by decide); have nc4 := lv_neT (a := 13) c4 (by decide); have nc7 := lv_neT (a := 14) c7 (by decide); have nc10 := lv_neT (a := 15) c10 (by decide); have nc11 := lv_neT (a := 16) c11 (by decide); have nc12 := lv_neT (a := 17) c12 (by decide); have nc13 := lv_neT (a := 18) c13 (by decide); have nc14 := lv_neT (a := 19) c14 (by decide); have nc15 := lv_neT (a := 20) c15 (by decide); have nc17 := lv_neT (a := 21) c17 (by decide); have nc19 := lv_neT (a := 22) c19 (by decide); have nc21 := lv_neT (a := 23) c21 (by decide); have nc23 := lv_neT (a := 24) c23 (by decide); have nc25 := lv_neT (a := 25) c25 (by decide); have nc27 := lv_neT (a := 26) c27 (by decide); have nc28 := lv_neT (a := 27) c28 (by decide); have nc29 := lv_neT (a := 28) c29 (by decide); have nc30 := lv_neT (a := 29) c30 (by decide); have nc31 := lv_neT (a := 30) c31 (by decide); have nc34 := lv_neT (a := 31) c34 (by decide); have nc37 := lv_neT (a := 32) c37 (by decide); omega) (by decide) ?_
                                                refine lv_lload_n hx hb dX10_two_262 rfl (lv_at hl 1 rfl) ?_
                                                refine lv_lload_n hx hb dX10_two_263 rfl (lv_at hl 2 rfl) ?_
                                                refine va_mmax_long hx hb (by rw [hml]; exact hl.1.symm) hC.2.2.1 (hC.2.1 (Cond.methodLink RX10 380 Lib.MathLoose.max_long.x) (gw_t (tb7 (List.mem_of_getElem? (i := 199) rfl)) rfl)) (hC.2.1 (Cond.static Lib.MathLoose.max_long.x) (gw_t (tb4 (List.mem_of_getElem? (i := 23) rfl)) rfl)) (hC.2.1 (Cond.initialized "java/lang/Math") (gw_t (tb1 (List.mem_of_getElem? (i := 13) rfl)) rfl)) (hC.2.1 (Cond.code Lib.MathLoose.max_long.x Lib.MathLoose.max_long.code 4 (some .long)) (gw_t (tb4 (List.mem_of_getElem? (i := 24) rfl)) rfl)) (Nat.le_of_ble_eq_true rfl) (Nat.le_of_ble_eq_true rfl) (Nat.zero_le _) (Nat.zero_le _) dX10_two_264 ?_
                                                exact x_lret hF hP hS h dX10_two_267
