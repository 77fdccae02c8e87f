/-! The law's loops, block by block (by wip/p32/lawwalk.py). -/
def LFr (p : Program) (s : State) (m : MethodId) (args : Array Value) (c : Code) (D : va_G) (Y : CYs) (E : Nat → Nat) (Rs : va_W) (A : Nat → Prop) : Prop :=
  Ctx p s m args RL D Y ∧ c.code = cL_law ∧ c.maxLocals = 18 ∧ (∀ τ, va_D A (Rs ++ wd Y E τ 0 LC)) ∧ SW A s s.heap ∧ ∀ q, s.heap.size ≤ q → A q
theorem rs_at {Rs W : va_W} {i : Nat} {x : Nat × va_E} (h : Rs[i]? = some x) : (Rs ++ W)[i]? = some x := by
  rw [List.getElem?_append_left (List.getElem?_eq_some_iff.mp h).1]
  exact h
section LY
variable {p : Program} {l : Launch} {e : Env} {R : Room} {s : State} {m : MethodId} {args : Array Value} {below : List Frame} {meth : Method} {c : Code} {H : Heap} {locs : List Loc} {cells slots : Nat} {Q : State → Prop}
variable {D : va_G} {Y : CYs} {E : Nat → Nat} {σ σ2 : Sta} {bytes : ByteArray} {pc maxL n index : Nat} {ret : Option FieldType} {ls : Array Slot} {st rest As : List Value} {y : MethodName} {rm : Room} {A : Nat → Prop} {Rs : va_W} {lv : List (Nat × Value)} {q ci N : Nat} {T : u_T} {fs : List (Nat × Nat)} {C : String}
theorem y_VI {r : Int32} (hF : LFr p s m args c D Y E Rs A) (hl : lv_has ls 18 lv) (hP : va_P D vwCl (Rs ++ wd Y E σ 0 LC) H) (hS : va_S A s.heap H locs)
    (hM : MI l y (Cond.code y bytes maxL ret :: gW) rm LC Y D E (.ref (E q) :: As) σ (r, σ2)) (cw : CallW R s args RL C index y bytes maxL ret (Cond.code y bytes maxL ret :: gW) rm 0 0 n)
    (hq : LC[q]? = some (0, ci, fs)) (hc : vwCl[ci]? = some (C, T, N)) (hn : As.length = n) (hst : st = As.reverse ++ .ref (E q) :: rest) (hcat : (rest.map fun v => v.category).sum ≤ 8) (hdg : decode cL_law pc = .ok (.invokevirtual index, 3)) (hf : cells ≤ R.cells ∧ slots ≤ R.slots)
    (kk : ∀ (H1 : Heap) (locs1 : List Loc), va_P D vwCl (Rs ++ wd Y E σ2 0 LC) H1 → va_S A s.heap H1 locs1 → W p l e R s m args below meth c H1 locs1 cells slots Q (F0 m (pc + 3) ls (.int r :: rest))) : W p l e R s m args below meth c H locs cells slots Q (F0 m pc ls st) := by
  obtain ⟨hC, hb, hml, hD, hSW, hA⟩ := hF
  exact n_VI hC hb hml hl.1 hSW hP (hD σ) hS hA (fun sz => hM sz) cw hq hc hn hst hcat hdg hf (fun H1 locs1 h1 _ h3 => kk H1 locs1 h1 h3)
theorem y_VL {r : Int64} (hF : LFr p s m args c D Y E Rs A) (hl : lv_has ls 18 lv) (hP : va_P D vwCl (Rs ++ wd Y E σ 0 LC) H) (hS : va_S A s.heap H locs)
    (hM : ML l y (Cond.code y bytes maxL ret :: gW) rm LC Y D E (.ref (E q) :: As) σ (r, σ2)) (cw : CallW R s args RL C index y bytes maxL ret (Cond.code y bytes maxL ret :: gW) rm 0 0 n)
    (hq : LC[q]? = some (0, ci, fs)) (hc : vwCl[ci]? = some (C, T, N)) (hn : As.length = n) (hst : st = As.reverse ++ .ref (E q) :: rest) (hcat : (rest.map fun v => v.category).sum ≤ 8) (hdg : decode cL_law pc = .ok (.invokevirtual index, 3)) (hf : cells ≤ R.cells ∧ slots ≤ R.slots)
    (kk : ∀ (H1 : Heap) (locs1 : List Loc), va_P D vwCl (Rs ++ wd Y E σ2 0 LC) H1 → va_S A s.heap H1 locs1 → W p l e R s m args below meth c H1 locs1 cells slots Q (F0 m (pc + 3) ls (.long r :: rest))) : W p l e R s m args below meth c H locs cells slots Q (F0 m pc ls st) := by
  obtain ⟨hC, hb, hml, hD, hSW, hA⟩ := hF
  exact n_VL hC hb hml hl.1 hSW hP (hD σ) hS hA (fun sz => hM sz) cw hq hc hn hst hcat hdg hf (fun H1 locs1 h1 _ h3 => kk H1 locs1 h1 h3)
end LY
theorem cw_L_97 {R : Room} {p : Program} {s : State} {m : MethodId} {args : Array Value} {D : va_G} {Y : CYs} {rm : Room} (hC : Ctx p s m args RL D Y) (hrc : rm.cells = 0) (hrs : rm.slots = 0) (hR : rm.frames + 1 ≤ R.frames ∧ 8 + (2 + 11) + rm.locals ≤ R.locals) : CallW R s args RL RX8 97 yX8_chance cX8_chance 2 (some .int) (Cond.code yX8_chance cX8_chance 2 (some .int) :: gW) rm 0 0 1 :=
  cwV 1 hC.2.1 (gi_V (gw_t (tb3 (List.mem_of_getElem? (i := 138) rfl)) rfl) (gw_t (tb3 (List.mem_of_getElem? (i := 139) rfl)) rfl) (gw_t (tb3 (List.mem_of_getElem? (i := 140) rfl)) rfl) (gw_t (tb1 (List.mem_of_getElem? (i := 1) rfl)) rfl) (gw_t (tb3 (List.mem_of_getElem? (i := 141) rfl)) rfl)) rfl hrc hrs ⟨rfl, by decide +kernel, by decide +kernel, by decide +kernel⟩ hR
theorem cw_L_100 {R : Room} {p : Program} {s : State} {m : MethodId} {args : Array Value} {D : va_G} {Y : CYs} {rm : Room} (hC : Ctx p s m args RL D Y) (hrc : rm.cells = 0) (hrs : rm.slots = 0) (hR : rm.frames + 1 ≤ R.frames ∧ 8 + (3 + 11) + rm.locals ≤ R.locals) : CallW R s args RL RX8 100 yX8_reach cX8_reach 3 (some .int) (Cond.code yX8_reach cX8_reach 3 (some .int) :: gW) rm 0 0 2 :=
  cwV 2 hC.2.1 (gi_V (gw_t (tb3 (List.mem_of_getElem? (i := 150) rfl)) rfl) (gw_t (tb3 (List.mem_of_getElem? (i := 151) rfl)) rfl) (gw_t (tb3 (List.mem_of_getElem? (i := 152) rfl)) rfl) (gw_t (tb1 (List.mem_of_getElem? (i := 1) rfl)) rfl) (gw_t (tb3 (List.mem_of_getElem? (i := 153) rfl)) rfl)) rfl hrc hrs ⟨rfl, by decide +kernel, by decide +kernel, by decide +kernel⟩ hR
theorem cw_L_64 {R : Room} {p : Program} {s : State} {m : MethodId} {args : Array Value} {D : va_G} {Y : CYs} {rm : Room} (hC : Ctx p s m args RL D Y) (hrc : rm.cells = 0) (hrs : rm.slots = 0) (hR : rm.frames + 1 ≤ R.frames ∧ 8 + (2 + 11) + rm.locals ≤ R.locals) : CallW R s args RL RX8 64 yX8_count cX8_count 2 (some .int) (Cond.code yX8_count cX8_count 2 (some .int) :: gW) rm 0 0 1 :=
  cwV 1 hC.2.1 (gi_V (gw_t (tb2 (List.mem_of_getElem? (i := 120) rfl)) rfl) (gw_t (tb2 (List.mem_of_getElem? (i := 121) rfl)) rfl) (gw_t (tb2 (List.mem_of_getElem? (i := 122) rfl)) rfl) (gw_t (tb1 (List.mem_of_getElem? (i := 1) rfl)) rfl) (gw_t (tb2 (List.mem_of_getElem? (i := 123) rfl)) rfl)) rfl hrc hrs ⟨rfl, by decide +kernel, by decide +kernel, by decide +kernel⟩ hR
theorem cw_L_67 {R : Room} {p : Program} {s : State} {m : MethodId} {args : Array Value} {D : va_G} {Y : CYs} {rm : Room} (hC : Ctx p s m args RL D Y) (hrc : rm.cells = 0) (hrs : rm.slots = 0) (hR : rm.frames + 1 ≤ R.frames ∧ 8 + (5 + 11) + rm.locals ≤ R.locals) : CallW R s args RL RX8 67 yX8_takes cX8_takes 5 (some .int) (Cond.code yX8_takes cX8_takes 5 (some .int) :: gW) rm 0 0 3 :=
  cwV 3 hC.2.1 (gi_V (gw_t (tb3 (List.mem_of_getElem? (i := 120) rfl)) rfl) (gw_t (tb3 (List.mem_of_getElem? (i := 121) rfl)) rfl) (gw_t (tb3 (List.mem_of_getElem? (i := 122) rfl)) rfl) (gw_t (tb1 (List.mem_of_getElem? (i := 1) rfl)) rfl) (gw_t (tb3 (List.mem_of_getElem? (i := 123) rfl)) rfl)) rfl hrc hrs ⟨rfl, by decide +kernel, by decide +kernel, by decide +kernel⟩ hR
theorem cw_L_71 {R : Room} {p : Program} {s : State} {m : MethodId} {args : Array Value} {D : va_G} {Y : CYs} {rm : Room} (hC : Ctx p s m args RL D Y) (hrc : rm.cells = 0) (hrs : rm.slots = 0) (hR : rm.frames + 1 ≤ R.frames ∧ 8 + (2 + 11) + rm.locals ≤ R.locals) : CallW R s args RL RX8 71 yX8_choices cX8_choices 2 (some .int) (Cond.code yX8_choices cX8_choices 2 (some .int) :: gW) rm 0 0 1 :=
  cwV 1 hC.2.1 (gi_V (gw_t (tb2 (List.mem_of_getElem? (i := 192) rfl)) rfl) (gw_t (tb2 (List.mem_of_getElem? (i := 193) rfl)) rfl) (gw_t (tb2 (List.mem_of_getElem? (i := 194) rfl)) rfl) (gw_t (tb1 (List.mem_of_getElem? (i := 1) rfl)) rfl) (gw_t (tb2 (List.mem_of_getElem? (i := 195) rfl)) rfl)) rfl hrc hrs ⟨rfl, by decide +kernel, by decide +kernel, by decide +kernel⟩ hR
theorem cw_L_79 {R : Room} {p : Program} {s : State} {m : MethodId} {args : Array Value} {D : va_G} {Y : CYs} {rm : Room} (hC : Ctx p s m args RL D Y) (hrc : rm.cells = 0) (hrs : rm.slots = 0) (hR : rm.frames + 1 ≤ R.frames ∧ 8 + (5 + 11) + rm.locals ≤ R.locals) : CallW R s args RL RX8 79 yX8_worth cX8_worth 5 (some .long) (Cond.code yX8_worth cX8_worth 5 (some .long) :: gW) rm 0 0 3 :=
  cwV 3 hC.2.1 (gi_V (gw_t (tb3 (List.mem_of_getElem? (i := 129) rfl)) rfl) (gw_t (tb3 (List.mem_of_getElem? (i := 130) rfl)) rfl) (gw_t (tb3 (List.mem_of_getElem? (i := 131) rfl)) rfl) (gw_t (tb1 (List.mem_of_getElem? (i := 1) rfl)) rfl) (gw_t (tb3 (List.mem_of_getElem? (i := 132) rfl)) rfl)) rfl hrc hrs ⟨rfl, by decide +kernel, by decide +kernel, by decide +kernel⟩ hR
theorem cw_L_83 {R : Room} {p : Program} {s : State} {m : MethodId} {args : Array Value} {D : va_G} {Y : CYs} {rm : Room} (hC : Ctx p s m args RL D Y) (hrc : rm.cells = 0) (hrs : rm.slots = 0) (hR : rm.frames + 1 ≤ R.frames ∧ 8 + (4 + 11) + rm.locals ≤ R.locals) : CallW R s args RL RX8 83 yX8_gain cX8_gain 4 (some .long) (Cond.code yX8_gain cX8_gain 4 (some .long) :: gW) rm 0 0 3 :=
  cwV 3 hC.2.1 (gi_V (gw_t (tb2 (List.mem_of_getElem? (i := 225) rfl)) rfl) (gw_t (tb2 (List.mem_of_getElem? (i := 226) rfl)) rfl) (gw_t (tb2 (List.mem_of_getElem? (i := 227) rfl)) rfl) (gw_t (tb1 (List.mem_of_getElem? (i := 1) rfl)) rfl) (gw_t (tb2 (List.mem_of_getElem? (i := 228) rfl)) rfl)) rfl hrc hrs ⟨rfl, by decide +kernel, by decide +kernel, by decide +kernel⟩ hR
theorem cw_L_86 {R : Room} {p : Program} {s : State} {m : MethodId} {args : Array Value} {D : va_G} {Y : CYs} {rm : Room} (hC : Ctx p s m args RL D Y) (hrc : rm.cells = 0) (hrs : rm.slots = 0) (hR : rm.frames + 1 ≤ R.frames ∧ 8 + (4 + 11) + rm.locals ≤ R.locals) : CallW R s args RL RX8 86 yX8_choice cX8_choice 4 (some .int) (Cond.code yX8_choice cX8_choice 4 (some .int) :: gW) rm 0 0 3 :=
  cwV 3 hC.2.1 (gi_V (gw_t (tb2 (List.mem_of_getElem? (i := 205) rfl)) rfl) (gw_t (tb2 (List.mem_of_getElem? (i := 206) rfl)) rfl) (gw_t (tb2 (List.mem_of_getElem? (i := 207) rfl)) rfl) (gw_t (tb1 (List.mem_of_getElem? (i := 1) rfl)) rfl) (gw_t (tb2 (List.mem_of_getElem? (i := 208) rfl)) rfl)) rfl hrc hrs ⟨rfl, by decide +kernel, by decide +kernel, by decide +kernel⟩ hR
theorem cw_L_89 {R : Room} {p : Program} {s : State} {m : MethodId} {args : Array Value} {D : va_G} {Y : CYs} {rm : Room} (hC : Ctx p s m args RL D Y) (hrc : rm.cells = 0) (hrs : rm.slots = 0) (hR : rm.frames + 1 ≤ R.frames ∧ 8 + (5 + 11) + rm.locals ≤ R.locals) : CallW R s args RL RX8 89 yX8_branch cX8_branch 5 (some .int) (Cond.code yX8_branch cX8_branch 5 (some .int) :: gW) rm 0 0 4 :=
  cwV 4 hC.2.1 (gi_V (gw_t (tb3 (List.mem_of_getElem? (i := 0) rfl)) rfl) (gw_t (tb3 (List.mem_of_getElem? (i := 1) rfl)) rfl) (gw_t (tb3 (List.mem_of_getElem? (i := 2) rfl)) rfl) (gw_t (tb1 (List.mem_of_getElem? (i := 1) rfl)) rfl) (gw_t (tb3 (List.mem_of_getElem? (i := 3) rfl)) rfl)) rfl hrc hrs ⟨rfl, by decide +kernel, by decide +kernel, by decide +kernel⟩ hR
theorem cw_L_61 {R : Room} {p : Program} {s : State} {m : MethodId} {args : Array Value} {D : va_G} {Y : CYs} {rm : Room} (hC : Ctx p s m args RL D Y) (hrc : rm.cells = 0) (hrs : rm.slots = 0) (hR : rm.frames + 1 ≤ R.frames ∧ 8 + (4 + 11) + rm.locals ≤ R.locals) : CallW R s args RL RX8 61 yX8_solve cX8_solve 4 (some .int) (Cond.code yX8_solve cX8_solve 4 (some .int) :: gW) rm 0 0 1 :=
  cwV 1 hC.2.1 (gi_V (gw_t (tb3 (List.mem_of_getElem? (i := 36) rfl)) rfl) (gw_t (tb3 (List.mem_of_getElem? (i := 37) rfl)) rfl) (gw_t (tb3 (List.mem_of_getElem? (i := 38) rfl)) rfl) (gw_t (tb1 (List.mem_of_getElem? (i := 1) rfl)) rfl) (gw_t (tb3 (List.mem_of_getElem? (i := 39) rfl)) rfl)) rfl hrc hrs ⟨rfl, by decide +kernel, by decide +kernel, by decide +kernel⟩ hR
theorem cw_L_108 {R : Room} {p : Program} {s : State} {m : MethodId} {args : Array Value} {D : va_G} {Y : CYs} {rm : Room} (hC : Ctx p s m args RL D Y) (hrc : rm.cells = 0) (hrs : rm.slots = 0) (hR : rm.frames + 1 ≤ R.frames ∧ 8 + (3 + 11) + rm.locals ≤ R.locals) : CallW R s args RL RX8 108 yX8_isWorthHaving cX8_isWorthHaving 3 (some .boolean) (Cond.code yX8_isWorthHaving cX8_isWorthHaving 3 (some .boolean) :: gW) rm 0 0 1 :=
  cwV 1 hC.2.1 (gi_V (gw_t (tb3 (List.mem_of_getElem? (i := 142) rfl)) rfl) (gw_t (tb3 (List.mem_of_getElem? (i := 143) rfl)) rfl) (gw_t (tb3 (List.mem_of_getElem? (i := 144) rfl)) rfl) (gw_t (tb1 (List.mem_of_getElem? (i := 1) rfl)) rfl) (gw_t (tb3 (List.mem_of_getElem? (i := 145) rfl)) rfl)) rfl hrc hrs ⟨rfl, by decide +kernel, by decide +kernel, by decide +kernel⟩ hR
theorem cw_L_104 {R : Room} {p : Program} {s : State} {m : MethodId} {args : Array Value} {D : va_G} {Y : CYs} {rm : Room} (hC : Ctx p s m args RL D Y) (hrc : rm.cells = 0) (hrs : rm.slots = 0) (hR : rm.frames + 1 ≤ R.frames ∧ 8 + (3 + 11) + rm.locals ≤ R.locals) : CallW R s args RL RX8 104 yX8_brings cX8_brings 3 (some .long) (Cond.code yX8_brings cX8_brings 3 (some .long) :: gW) rm 0 0 2 :=
  cwV 2 hC.2.1 (gi_V (gw_t (tb3 (List.mem_of_getElem? (i := 134) rfl)) rfl) (gw_t (tb3 (List.mem_of_getElem? (i := 135) rfl)) rfl) (gw_t (tb3 (List.mem_of_getElem? (i := 136) rfl)) rfl) (gw_t (tb1 (List.mem_of_getElem? (i := 1) rfl)) rfl) (gw_t (tb3 (List.mem_of_getElem? (i := 137) rfl)) rfl)) rfl hrc hrs ⟨rfl, by decide +kernel, by decide +kernel, by decide +kernel⟩ hR
def f_LB1_433 (wt : Nat → Int32) (v3 : Int32) (v4 : Int32) (k127 : Int32 → Sta → Option (Unit × Sta)) (k136 : Int32 → Int32 → Sta → Option (Unit × Sta)) (k216 : Int32 → Int32 → Int32 → Int32 → Int32 → Sta → Option (Unit × Sta)) (v6 : Int32) (v7 : Int32) (v8 : Int32) (v9 : Int32) (v10 : Int32) (σ : Sta) : Option (Unit × Sta) :=
  lt (v10 + 1) (fun x1 =>
  k216 v6 v7 v8 v9 x1 σ)
set_option maxHeartbeats 4000000 in
set_option maxRecDepth 100000 in
theorem t_LB1_433 {l : Launch} {D : va_G} {Y : CYs} {E : Nat → Nat} {p : Program} {e : Env} {s : State} {m : MethodId} {args : Array Value} {below : List Frame} {meth : Method} {c : Code} {wt : Nat → Int32} {v3 : Int32} {v4 : Int32} {cells slots : Nat} {Q : State → Prop} {A : Nat → Prop} {Rs : va_W} (hF : LFr p s m args c D Y E Rs A) (hcs : cells ≤ room_1.cells ∧ slots ≤ room_1.slots) {iw qs qw : Nat} (hw : Rs[iw]? = some (qw, .inl (Y.1, 3, .inl wt))) {o : Unit × Sta} (kx : ∀ (H : Heap) (locs : List Loc) (ls : Array Slot), va_P D vwCl (Rs ++ wd Y E o.2 0 LC) H → va_S A s.heap H locs → lv_has ls 18 [(0, .ref qs), (1, .ref (E 0)), (3, .int v3), (4, .int v4)] → W p l e room_1 s m args below meth c H locs cells slots Q (F0 m 483 ls [])) (k127 : Int32 → Sta → Option (Unit × Sta)) (k136 : Int32 → Int32 → Sta → Option (Unit × Sta)) (k216 : Int32 → Int32 → Int32 → Int32 → Int32 → Sta → Option (Unit × Sta)) (hk127 : ∀ (v6 : Int32) (σ : Sta) (H : Heap) (locs : List Loc) (ls : Array Slot), k127 v6 σ = some o → va_P D vwCl (Rs ++ wd Y E σ 0 LC) H → va_S A s.heap H locs → lv_has ls 18 [(0, .ref qs), (1, .ref (E 0)), (3, .int v3), (4, .int v4), (5, .ref qw), (6, .int v6)] → W p l e room_1 s m args below meth c H locs cells slots Q (F0 m 127 ls [])) (hk136 : ∀ (v6 : Int32) (v7 : Int32) (σ : Sta) (H : Heap) (locs : List Loc) (ls : Array Slot), k136 v6 v7 σ = some o → va_P D vwCl (Rs ++ wd Y E σ 0 LC) H → va_S A s.heap H locs → lv_has ls 18 [(0, .ref qs), (1, .ref (E 0)), (3, .int v3), (4, .int v4), (5, .ref qw), (6, .int v6), (7, .int v7)] → W p l e room_1 s m args below meth c H locs cells slots Q (F0 m 136 ls [])) (hk216 : ∀ (v6 : Int32) (v7 : Int32) (v8 : Int32) (v9 : Int32) (v10 : Int32) (σ : Sta) (H : Heap) (locs : List Loc) (ls : Array Slot), k216 v6 v7 v8 v9 v10 σ = some o → va_P D vwCl (Rs ++ wd Y E σ 0 LC) H → va_S A s.heap H locs → lv_has ls 18 [(0, .ref qs), (1, .ref (E 0)), (3, .int v3), (4, .int v4), (5, .ref qw), (6, .int v6), (7, .int v7), (8, .int v8), (9, .int v9), (10, .int v10)] → W p l e room_1 s m args below meth c H locs cells slots Q (F0 m 216 ls [])) : ∀ (v6 : Int32) (v7 : Int32) (v8 : Int32) (v9 : Int32) (v10 : Int32) (σ : Sta) (H : Heap) (locs : List Loc) (ls : Array Slot), f_LB1_433 wt v3 v4 k127 k136 k216 v6 v7 v8 v9 v10 σ = some o → va_P D vwCl (Rs ++ wd Y E σ 0 LC) H → va_S A s.heap H locs → lv_has ls 18 [(0, .ref qs), (1, .ref (E 0)), (3, .int v3), (4, .int v4), (5, .ref qw), (6, .int v6), (7, .int v7), (8, .int v8), (9, .int v9), (10, .int v10)] → W p l e room_1 s m args below meth c H locs cells slots Q (F0 m 433 ls []) := by
  intro v6 v7 v8 v9 v10 σ H locs ls h hP hS hl
  unfold f_LB1_433 at h
  obtain ⟨hC, hb, hml, hD, hSW, hA⟩ := id hF
  have hx := hC.1
  obtain ⟨x1, ex1⟩ : ∃ y : Int32, y = v10 + 1 := ⟨_, rfl⟩
  have h := of_lt h ex1
  refine lv_iinc (v := x1) (lv' := [(10, .int x1), (0, .ref qs), (1, .ref (E 0)), (3, .int v3), (4, .int v4), (5, .ref qw), (6, .int v6), (7, .int v7), (8, .int v8), (9, .int v9)]) hx hb dL_law_433 hl (k := 9) rfl (by rw [ex1]; rfl) (by decide) rfl (fun ls hl => ?_)
  refine lv_goto (tgt := 216) hx hb dL_law_436 (by decide) ?_
  exact hk216 v6 v7 v8 v9 x1 σ _ _ _ h hP hS (lv_sub hl [1, 2, 3, 4, 5, 6, 7, 8, 9, 0] rfl)

def f_LB1_408 (wt : Nat → Int32) (v3 : Int32) (v4 : Int32) (k127 : Int32 → Sta → Option (Unit × Sta)) (k136 : Int32 → Int32 → Sta → Option (Unit × Sta)) (k216 : Int32 → Int32 → Int32 → Int32 → Int32 → Sta → Option (Unit × Sta)) (v6 : Int32) (v7 : Int32) (v8 : Int32) (v9 : Int32) (v10 : Int32) (v16 : Int64) (σ : Sta) : Option (Unit × Sta) :=
  if v8 ≤ v10 then
    f_LB1_433 wt v3 v4 k127 k136 k216 v6 v7 v8 v9 v10 σ
  else
    bnd (f_X8_worth v4 v7 v6 σ) (fun r2 σ3 =>
    if lg_cmp v16 r2 = 0 then
      none
    else
      f_LB1_433 wt v3 v4 k127 k136 k216 v6 v7 v8 v9 v10 σ3)
set_option maxHeartbeats 4000000 in
set_option maxRecDepth 100000 in
theorem t_LB1_408 {l : Launch} {D : va_G} {Y : CYs} {E : Nat → Nat} {p : Program} {e : Env} {s : State} {m : MethodId} {args : Array Value} {below : List Frame} {meth : Method} {c : Code} {wt : Nat → Int32} {v3 : Int32} {v4 : Int32} {cells slots : Nat} {Q : State → Prop} {A : Nat → Prop} {Rs : va_W} (hF : LFr p s m args c D Y E Rs A) (hcs : cells ≤ room_1.cells ∧ slots ≤ room_1.slots) {iw qs qw : Nat} (hw : Rs[iw]? = some (qw, .inl (Y.1, 3, .inl wt))) {o : Unit × Sta} (kx : ∀ (H : Heap) (locs : List Loc) (ls : Array Slot), va_P D vwCl (Rs ++ wd Y E o.2 0 LC) H → va_S A s.heap H locs → lv_has ls 18 [(0, .ref qs), (1, .ref (E 0)), (3, .int v3), (4, .int v4)] → W p l e room_1 s m args below meth c H locs cells slots Q (F0 m 483 ls [])) (k127 : Int32 → Sta → Option (Unit × Sta)) (k136 : Int32 → Int32 → Sta → Option (Unit × Sta)) (k216 : Int32 → Int32 → Int32 → Int32 → Int32 → Sta → Option (Unit × Sta)) (hk127 : ∀ (v6 : Int32) (σ : Sta) (H : Heap) (locs : List Loc) (ls : Array Slot), k127 v6 σ = some o → va_P D vwCl (Rs ++ wd Y E σ 0 LC) H → va_S A s.heap H locs → lv_has ls 18 [(0, .ref qs), (1, .ref (E 0)), (3, .int v3), (4, .int v4), (5, .ref qw), (6, .int v6)] → W p l e room_1 s m args below meth c H locs cells slots Q (F0 m 127 ls [])) (hk136 : ∀ (v6 : Int32) (v7 : Int32) (σ : Sta) (H : Heap) (locs : List Loc) (ls : Array Slot), k136 v6 v7 σ = some o → va_P D vwCl (Rs ++ wd Y E σ 0 LC) H → va_S A s.heap H locs → lv_has ls 18 [(0, .ref qs), (1, .ref (E 0)), (3, .int v3), (4, .int v4), (5, .ref qw), (6, .int v6), (7, .int v7)] → W p l e room_1 s m args below meth c H locs cells slots Q (F0 m 136 ls [])) (hk216 : ∀ (v6 : Int32) (v7 : Int32) (v8 : Int32) (v9 : Int32) (v10 : Int32) (σ : Sta) (H : Heap) (locs : List Loc) (ls : Array Slot), k216 v6 v7 v8 v9 v10 σ = some o → va_P D vwCl (Rs ++ wd Y E σ 0 LC) H → va_S A s.heap H locs → lv_has ls 18 [(0, .ref qs), (1, .ref (E 0)), (3, .int v3), (4, .int v4), (5, .ref qw), (6, .int v6), (7, .int v7), (8, .int v8), (9, .int v9), (10, .int v10)] → W p l e room_1 s m args below meth c H locs cells slots Q (F0 m 216 ls [])) : ∀ (v6 : Int32) (v7 : Int32) (v8 : Int32) (v9 : Int32) (v10 : Int32) (v16 : Int64) (σ : Sta) (H : Heap) (locs : List Loc) (ls : Array Slot), f_LB1_408 wt v3 v4 k127 k136 k216 v6 v7 v8 v9 v10 v16 σ = some o → va_P D vwCl (Rs ++ wd Y E σ 0 LC) H → va_S A s.heap H locs → lv_has ls 18 [(0, .ref qs), (1, .ref (E 0)), (3, .int v3), (4, .int v4), (5, .ref qw), (6, .int v6), (7, .int v7), (8, .int v8), (9, .int v9), (10, .int v10), (16, .long v16)] → W p l e room_1 s m args below meth c H locs cells slots Q (F0 m 408 ls []) := by
  intro v6 v7 v8 v9 v10 v16 σ H locs ls h hP hS hl
  unfold f_LB1_408 at h
  obtain ⟨hC, hb, hml, hD, hSW, hA⟩ := id hF
  have hx := hC.1
  refine lv_iload hx hb dL_law_408 (lv_at hl 9 rfl) ?_
  refine lv_iload hx hb dL_law_410 (lv_at hl 7 rfl) ?_
  refine lv_icmp_ge (tgt := 433) hx hb dL_law_412 (by decide) (fun c1 => ?_) (fun c1 => ?_)
  · have h := of_t h c1
    exact t_LB1_433 hF hcs hw kx k127 k136 k216 hk127 hk136 hk216 v6 v7 v8 v9 v10 σ _ _ _ h hP hS (lv_sub hl [0, 1, 2, 3, 4, 5, 6, 7, 8, 9] rfl)
  · have h := of_f h c1
    refine lv_lload hx hb dL_law_415 (lv_at hl 10 rfl) ?_
    refine lv_aload_n hx hb dL_law_417 rfl (lv_at hl 1 rfl) ?_
    refine lv_iload hx hb dL_law_418 (lv_at hl 3 rfl) ?_
    refine lv_iload hx hb dL_law_420 (lv_at hl 6 rfl) ?_
    refine lv_iload hx hb dL_law_422 (lv_at hl 5 rfl) ?_
    obtain ⟨r2, σ3, g4, h⟩ := of_bnd h
    refine y_VL (As := [.int v4, .int v7, .int v6]) (rest := [.long v16]) hF hl hP hS (c_X8_worth g4) (cw_L_79 hC rfl rfl ⟨Nat.le_of_ble_eq_true rfl, Nat.le_of_ble_eq_true rfl⟩) lc_0 rfl rfl rfl (Nat.le_of_ble_eq_true rfl) dL_law_424 hcs (fun H locs hP hS => ?_)
    refine W.lcmp hx hb dL_law_427 ?_
    refine lv_if_ne (tgt := 433) hx hb dL_law_428 (by decide) (fun c5 => ?_) (fun c5 => ?_)
    · have h := of_f h c5
      exact t_LB1_433 hF hcs hw kx k127 k136 k216 hk127 hk136 hk216 v6 v7 v8 v9 v10 σ3 _ _ _ h hP hS (lv_sub hl [0, 1, 2, 3, 4, 5, 6, 7, 8, 9] rfl)
    · have h := of_t h c5
      exact nomatch h

def f_LB1_272 (wt : Nat → Int32) (v3 : Int32) (v4 : Int32) (k127 : Int32 → Sta → Option (Unit × Sta)) (k136 : Int32 → Int32 → Sta → Option (Unit × Sta)) (k216 : Int32 → Int32 → Int32 → Int32 → Int32 → Sta → Option (Unit × Sta)) : Nat → Int32 → Int32 → Int32 → Int32 → Int32 → Int64 → Int64 → Int32 → Int32 → Sta → Option (Unit × Sta)
  | 0, _, _, _, _, _, _, _, _, _, _ => none
  | n + 1, v6, v7, v8, v9, v10, v11, v13, v15, v16, σ => bnd (f_X8_choice v7 v10 1 σ) (fun r1 σ2 =>
    if r1 ≤ v16 then
      lt ((10000 * v11) + (v13 / 100)) (fun x5 =>
      if v15 = 100 then
        bnd (f_X8_worth v4 v7 v6 σ2) (fun r7 σ8 =>
        if 0 < lg_cmp x5 r7 then
          none
        else
          if v10 = v8 then
            bnd (f_X8_worth v4 v7 v6 σ8) (fun r12 σ13 =>
            if lg_cmp x5 r12 = 0 then
              f_LB1_408 wt v3 v4 k127 k136 k216 v6 v7 v8 v9 v10 x5 σ13
            else
              none)
          else
            f_LB1_408 wt v3 v4 k127 k136 k216 v6 v7 v8 v9 v10 x5 σ8)
      else
        none)
    else
      bnd (f_X8_branch v7 v10 v16 1 σ2) (fun r16 σ17 =>
      bnd (f_X8_branch v7 v10 v16 0 σ17) (fun r19 σ20 =>
      bnd (f_X8_worth v4 r19 (v6 - 1) σ20) (fun r22 σ23 =>
      lt (v13 + (r16.toInt64 * r22)) (fun x25 =>
      bnd (f_X8_branch v7 v10 v16 1 σ23) (fun r26 σ27 =>
      lt (v15 + r26) (fun x29 =>
      lt (v16 + 1) (fun x30 =>
      f_LB1_272 wt v3 v4 k127 k136 k216 n v6 v7 v8 v9 v10 v11 x25 x29 x30 σ27))))))))
set_option maxHeartbeats 4000000 in
set_option maxRecDepth 100000 in
theorem t_LB1_272 {l : Launch} {D : va_G} {Y : CYs} {E : Nat → Nat} {p : Program} {e : Env} {s : State} {m : MethodId} {args : Array Value} {below : List Frame} {meth : Method} {c : Code} {wt : Nat → Int32} {v3 : Int32} {v4 : Int32} {cells slots : Nat} {Q : State → Prop} {A : Nat → Prop} {Rs : va_W} (hF : LFr p s m args c D Y E Rs A) (hcs : cells ≤ room_1.cells ∧ slots ≤ room_1.slots) {iw qs qw : Nat} (hw : Rs[iw]? = some (qw, .inl (Y.1, 3, .inl wt))) {o : Unit × Sta} (kx : ∀ (H : Heap) (locs : List Loc) (ls : Array Slot), va_P D vwCl (Rs ++ wd Y E o.2 0 LC) H → va_S A s.heap H locs → lv_has ls 18 [(0, .ref qs), (1, .ref (E 0)), (3, .int v3), (4, .int v4)] → W p l e room_1 s m args below meth c H locs cells slots Q (F0 m 483 ls [])) (k127 : Int32 → Sta → Option (Unit × Sta)) (k136 : Int32 → Int32 → Sta → Option (Unit × Sta)) (k216 : Int32 → Int32 → Int32 → Int32 → Int32 → Sta → Option (Unit × Sta)) (hk127 : ∀ (v6 : Int32) (σ : Sta) (H : Heap) (locs : List Loc) (ls : Array Slot), k127 v6 σ = some o → va_P D vwCl (Rs ++ wd Y E σ 0 LC) H → va_S A s.heap H locs → lv_has ls 18 [(0, .ref qs), (1, .ref (E 0)), (3, .int v3), (4, .int v4), (5, .ref qw), (6, .int v6)] → W p l e room_1 s m args below meth c H locs cells slots Q (F0 m 127 ls [])) (hk136 : ∀ (v6 : Int32) (v7 : Int32) (σ : Sta) (H : Heap) (locs : List Loc) (ls : Array Slot), k136 v6 v7 σ = some o → va_P D vwCl (Rs ++ wd Y E σ 0 LC) H → va_S A s.heap H locs → lv_has ls 18 [(0, .ref qs), (1, .ref (E 0)), (3, .int v3), (4, .int v4), (5, .ref qw), (6, .int v6), (7, .int v7)] → W p l e room_1 s m args below meth c H locs cells slots Q (F0 m 136 ls [])) (hk216 : ∀ (v6 : Int32) (v7 : Int32) (v8 : Int32) (v9 : Int32) (v10 : Int32) (σ : Sta) (H : Heap) (locs : List Loc) (ls : Array Slot), k216 v6 v7 v8 v9 v10 σ = some o → va_P D vwCl (Rs ++ wd Y E σ 0 LC) H → va_S A s.heap H locs → lv_has ls 18 [(0, .ref qs), (1, .ref (E 0)), (3, .int v3), (4, .int v4), (5, .ref qw), (6, .int v6), (7, .int v7), (8, .int v8), (9, .int v9), (10, .int v10)] → W p l e room_1 s m args below meth c H locs cells slots Q (F0 m 216 ls [])) : ∀ (n : Nat) (v6 : Int32) (v7 : Int32) (v8 : Int32) (v9 : Int32) (v10 : Int32) (v11 : Int64) (v13 : Int64) (v15 : Int32) (v16 : Int32) (σ : Sta) (H : Heap) (locs : List Loc) (ls : Array Slot), f_LB1_272 wt v3 v4 k127 k136 k216 n v6 v7 v8 v9 v10 v11 v13 v15 v16 σ = some o → va_P D vwCl (Rs ++ wd Y E σ 0 LC) H → va_S A s.heap H locs → lv_has ls 18 [(0, .ref qs), (1, .ref (E 0)), (3, .int v3), (4, .int v4), (5, .ref qw), (6, .int v6), (7, .int v7), (8, .int v8), (9, .int v9), (10, .int v10), (11, .long v11), (13, .long v13), (15, .int v15), (16, .int v16)] → W p l e room_1 s m args below meth c H locs cells slots Q (F0 m 272 ls []) := by
  intro n
  induction n with
  | zero =>
    intro v6 v7 v8 v9 v10 v11 v13 v15 v16 σ H locs ls h hP hS hl
    exact nomatch (show (none : Option (Unit × Sta)) = some o from h)
  | succ n ih =>
    intro v6 v7 v8 v9 v10 v11 v13 v15 v16 σ H locs ls h hP hS hl
    rw [f_LB1_272] at h
    obtain ⟨hC, hb, hml, hD, hSW, hA⟩ := id hF
    have hx := hC.1
    refine lv_iload hx hb dL_law_272 (lv_at hl 13 rfl) ?_
    refine lv_aload_n hx hb dL_law_274 rfl (lv_at hl 1 rfl) ?_
    refine lv_iload hx hb dL_law_275 (lv_at hl 6 rfl) ?_
    refine lv_iload hx hb dL_law_277 (lv_at hl 9 rfl) ?_
    refine lv_iconst (v := 1) hx hb dL_law_279 (by decide) ?_
    obtain ⟨r1, σ2, g3, h⟩ := of_bnd h
    refine y_VI (As := [.int v7, .int v10, .int 1]) (rest := [.int v16]) hF hl hP hS (c_X8_choice g3) (cw_L_86 hC rfl rfl ⟨Nat.le_of_ble_eq_true rfl, Nat.le_of_ble_eq_true rfl⟩) lc_0 rfl rfl rfl (Nat.le_of_ble_eq_true rfl) dL_law_280 hcs (fun H locs hP hS => ?_)
    refine lv_icmp_ge (tgt := 347) hx hb dL_law_283 (by decide) (fun c4 => ?_) (fun c4 => ?_)
    · have h := of_t h c4
      refine lv_ldc2 (v := 10000) hx hb hC.2.2.1 (hC.2.1 (Cond.constantLong RL 93 10000) (gw_t (tb6 (List.mem_of_getElem? (i := 152) rfl)) rfl)) dL_law_347 ?_
      refine lv_lload hx hb dL_law_350 (lv_at hl 10 rfl) ?_
      refine lv_lmul hx hb dL_law_352 ?_
      refine lv_lload hx hb dL_law_353 (lv_at hl 11 rfl) ?_
      refine lv_ldc2 (v := 100) hx hb hC.2.2.1 (hC.2.1 (Cond.constantLong RL 95 100) (gw_t (tb6 (List.mem_of_getElem? (i := 153) rfl)) rfl)) dL_law_355 ?_
      refine lv_ldiv hx hb dL_law_358 (by decide) ?_
      refine lv_ladd hx hb dL_law_359 ?_
      refine lv_topl (fun x5 ex5 => ?_)
      have h := of_lt h ex5
      refine lv_lstore (lv' := [(16, .long x5), (0, .ref qs), (1, .ref (E 0)), (3, .int v3), (4, .int v4), (5, .ref qw), (6, .int v6), (7, .int v7), (8, .int v8), (9, .int v9), (10, .int v10), (11, .long v11), (13, .long v13), (15, .int v15)]) hx hb dL_law_360 hl (by decide) rfl (fun ls hl => ?_)
      refine lv_iload hx hb dL_law_362 (lv_at hl 13 rfl) ?_
      refine lv_bipush (v := 100) hx hb dL_law_364 (by decide) ?_
      refine lv_icmp_ne (tgt := 431) hx hb dL_law_366 (by decide) (fun c6 => ?_) (fun c6 => ?_)
      · have h := of_f h c6
        exact nomatch h
      · have h := of_t h c6
        refine lv_lload hx hb dL_law_369 (lv_at hl 0 rfl) ?_
        refine lv_aload_n hx hb dL_law_371 rfl (lv_at hl 2 rfl) ?_
        refine lv_iload hx hb dL_law_372 (lv_at hl 4 rfl) ?_
        refine lv_iload hx hb dL_law_374 (lv_at hl 7 rfl) ?_
        refine lv_iload hx hb dL_law_376 (lv_at hl 6 rfl) ?_
        obtain ⟨r7, σ8, g9, h⟩ := of_bnd h
        refine y_VL (As := [.int v4, .int v7, .int v6]) (rest := [.long x5]) hF hl hP hS (c_X8_worth g9) (cw_L_79 hC rfl rfl ⟨Nat.le_of_ble_eq_true rfl, Nat.le_of_ble_eq_true rfl⟩) lc_0 rfl rfl rfl (Nat.le_of_ble_eq_true rfl) dL_law_378 hcs (fun H locs hP hS => ?_)
        refine W.lcmp hx hb dL_law_381 ?_
        refine lv_if_gt (tgt := 431) hx hb dL_law_382 (by decide) (fun c10 => ?_) (fun c10 => ?_)
        · have h := of_t h c10
          exact nomatch h
        · have h := of_f h c10
          refine lv_iload hx hb dL_law_385 (lv_at hl 10 rfl) ?_
          refine lv_iload hx hb dL_law_387 (lv_at hl 8 rfl) ?_
          refine lv_icmp_ne (tgt := 408) hx hb dL_law_389 (by decide) (fun c11 => ?_) (fun c11 => ?_)
          · have h := of_f h c11
            exact t_LB1_408 hF hcs hw kx k127 k136 k216 hk127 hk136 hk216 v6 v7 v8 v9 v10 x5 σ8 _ _ _ h hP hS (lv_sub hl [1, 2, 3, 4, 5, 6, 7, 8, 9, 10, 0] rfl)
          · have h := of_t h c11
            refine lv_lload hx hb dL_law_392 (lv_at hl 0 rfl) ?_
            refine lv_aload_n hx hb dL_law_394 rfl (lv_at hl 2 rfl) ?_
            refine lv_iload hx hb dL_law_395 (lv_at hl 4 rfl) ?_
            refine lv_iload hx hb dL_law_397 (lv_at hl 7 rfl) ?_
            refine lv_iload hx hb dL_law_399 (lv_at hl 6 rfl) ?_
            obtain ⟨r12, σ13, g14, h⟩ := of_bnd h
            refine y_VL (As := [.int v4, .int v7, .int v6]) (rest := [.long x5]) hF hl hP hS (c_X8_worth g14) (cw_L_79 hC rfl rfl ⟨Nat.le_of_ble_eq_true rfl, Nat.le_of_ble_eq_true rfl⟩) lc_0 rfl rfl rfl (Nat.le_of_ble_eq_true rfl) dL_law_401 hcs (fun H locs hP hS => ?_)
            refine W.lcmp hx hb dL_law_404 ?_
            refine lv_if_ne (tgt := 431) hx hb dL_law_405 (by decide) (fun c15 => ?_) (fun c15 => ?_)
            · have h := of_f h c15
              exact nomatch h
            · have h := of_t h c15
              exact t_LB1_408 hF hcs hw kx k127 k136 k216 hk127 hk136 hk216 v6 v7 v8 v9 v10 x5 σ13 _ _ _ h hP hS (lv_sub hl [1, 2, 3, 4, 5, 6, 7, 8, 9, 10, 0] rfl)
    · have h := of_f h c4
      refine lv_lload hx hb dL_law_286 (lv_at hl 11 rfl) ?_
      refine lv_aload_n hx hb dL_law_288 rfl (lv_at hl 1 rfl) ?_
      refine lv_iload hx hb dL_law_289 (lv_at hl 6 rfl) ?_
      refine lv_iload hx hb dL_law_291 (lv_at hl 9 rfl) ?_
      refine lv_iload hx hb dL_law_293 (lv_at hl 13 rfl) ?_
      refine lv_iconst (v := 1) hx hb dL_law_295 (by decide) ?_
      obtain ⟨r16, σ17, g18, h⟩ := of_bnd h
      refine y_VI (As := [.int v7, .int v10, .int v16, .int 1]) (rest := [.long v13]) hF hl hP hS (c_X8_branch g18) (cw_L_89 hC rfl rfl ⟨Nat.le_of_ble_eq_true rfl, Nat.le_of_ble_eq_true rfl⟩) lc_0 rfl rfl rfl (Nat.le_of_ble_eq_true rfl) dL_law_296 hcs (fun H locs hP hS => ?_)
      refine lv_i2l (v := r16.toInt64) hx hb dL_law_299 rfl ?_
      refine lv_aload_n hx hb dL_law_300 rfl (lv_at hl 1 rfl) ?_
      refine lv_iload hx hb dL_law_301 (lv_at hl 3 rfl) ?_
      refine lv_aload_n hx hb dL_law_303 rfl (lv_at hl 1 rfl) ?_
      refine lv_iload hx hb dL_law_304 (lv_at hl 6 rfl) ?_
      refine lv_iload hx hb dL_law_306 (lv_at hl 9 rfl) ?_
      refine lv_iload hx hb dL_law_308 (lv_at hl 13 rfl) ?_
      refine lv_iconst (v := 0) hx hb dL_law_310 (by decide) ?_
      obtain ⟨r19, σ20, g21, h⟩ := of_bnd h
      refine y_VI (As := [.int v7, .int v10, .int v16, .int 0]) (rest := [.int v4, .ref (E 0), .long r16.toInt64, .long v13]) hF hl hP hS (c_X8_branch g21) (cw_L_89 hC rfl rfl ⟨Nat.le_of_ble_eq_true rfl, Nat.le_of_ble_eq_true rfl⟩) lc_0 rfl rfl rfl (Nat.le_of_ble_eq_true rfl) dL_law_311 hcs (fun H locs hP hS => ?_)
      refine lv_iload hx hb dL_law_314 (lv_at hl 5 rfl) ?_
      refine lv_iconst (v := 1) hx hb dL_law_316 (by decide) ?_
      refine lv_isub hx hb dL_law_317 ?_
      obtain ⟨r22, σ23, g24, h⟩ := of_bnd h
      refine y_VL (As := [.int v4, .int r19, .int (v6 - 1)]) (rest := [.long r16.toInt64, .long v13]) hF hl hP hS (c_X8_worth g24) (cw_L_79 hC rfl rfl ⟨Nat.le_of_ble_eq_true rfl, Nat.le_of_ble_eq_true rfl⟩) lc_0 rfl rfl rfl (Nat.le_of_ble_eq_true rfl) dL_law_318 hcs (fun H locs hP hS => ?_)
      refine lv_lmul hx hb dL_law_321 ?_
      refine lv_ladd hx hb dL_law_322 ?_
      refine lv_topl (fun x25 ex25 => ?_)
      have h := of_lt h ex25
      refine lv_lstore (lv' := [(13, .long x25), (0, .ref qs), (1, .ref (E 0)), (3, .int v3), (4, .int v4), (5, .ref qw), (6, .int v6), (7, .int v7), (8, .int v8), (9, .int v9), (10, .int v10), (11, .long v11), (15, .int v15), (16, .int v16)]) hx hb dL_law_323 hl (by decide) rfl (fun ls hl => ?_)
      refine lv_iload hx hb dL_law_325 (lv_at hl 12 rfl) ?_
      refine lv_aload_n hx hb dL_law_327 rfl (lv_at hl 2 rfl) ?_
      refine lv_iload hx hb dL_law_328 (lv_at hl 7 rfl) ?_
      refine lv_iload hx hb dL_law_330 (lv_at hl 10 rfl) ?_
      refine lv_iload hx hb dL_law_332 (lv_at hl 13 rfl) ?_
      refine lv_iconst (v := 1) hx hb dL_law_334 (by decide) ?_
      obtain ⟨r26, σ27, g28, h⟩ := of_bnd h
      refine y_VI (As := [.int v7, .int v10, .int v16, .int 1]) (rest := [.int v15]) hF hl hP hS (c_X8_branch g28) (cw_L_89 hC rfl rfl ⟨Nat.le_of_ble_eq_true rfl, Nat.le_of_ble_eq_true rfl⟩) lc_0 rfl rfl rfl (Nat.le_of_ble_eq_true rfl) dL_law_335 hcs (fun H locs hP hS => ?_)
      refine lv_iadd hx hb dL_law_338 ?_
      refine lv_topi (fun x29 ex29 => ?_)
      have h := of_lt h ex29
      refine lv_istore (lv' := [(15, .int x29), (13, .long x25), (0, .ref qs), (1, .ref (E 0)), (3, .int v3), (4, .int v4), (5, .ref qw), (6, .int v6), (7, .int v7), (8, .int v8), (9, .int v9), (10, .int v10), (11, .long v11), (16, .int v16)]) hx hb dL_law_339 hl (by decide) rfl (fun ls hl => ?_)
      obtain ⟨x30, ex30⟩ : ∃ y : Int32, y = v16 + 1 := ⟨_, rfl⟩
      have h := of_lt h ex30
      refine lv_iinc (v := x30) (lv' := [(16, .int x30), (15, .int x29), (13, .long x25), (0, .ref qs), (1, .ref (E 0)), (3, .int v3), (4, .int v4), (5, .ref qw), (6, .int v6), (7, .int v7), (8, .int v8), (9, .int v9), (10, .int v10), (11, .long v11)]) hx hb dL_law_341 hl (k := 13) rfl (by rw [ex30]; rfl) (by decide) rfl (fun ls hl => ?_)
      refine lv_goto (tgt := 272) hx hb dL_law_344 (by decide) ?_
      exact ih v6 v7 v8 v9 v10 v11 x25 x29 x30 σ27 _ _ _ h hP hS (lv_sub hl [3, 4, 5, 6, 7, 8, 9, 10, 11, 12, 13, 2, 1, 0] rfl)

def f_LB1_229 (wt : Nat → Int32) (v3 : Int32) (v4 : Int32) (k127 : Int32 → Sta → Option (Unit × Sta)) (k136 : Int32 → Int32 → Sta → Option (Unit × Sta)) (k216 : Int32 → Int32 → Int32 → Int32 → Int32 → Sta → Option (Unit × Sta)) : Nat → Int32 → Int32 → Int32 → Int32 → Int32 → Int64 → Int32 → Sta → Option (Unit × Sta)
  | 0, _, _, _, _, _, _, _, _ => none
  | n + 1, v6, v7, v8, v9, v10, v11, v13, σ => if 3 ≤ v13 then
      f_LB1_272 wt v3 v4 k127 k136 k216 FU v6 v7 v8 v9 v10 v11 0 0 0 σ
    else
      if v13 < 0 ∨ 3 ≤ (v13.toNatClampNeg) then none else (
      bnd (f_X8_gain v7 v10 v13 σ) (fun r3 σ4 =>
      lt (v11 + (((wt (v13.toNatClampNeg)).toInt64) * r3)) (fun x6 =>
      lt (v13 + 1) (fun x7 =>
      f_LB1_229 wt v3 v4 k127 k136 k216 n v6 v7 v8 v9 v10 x6 x7 σ4))))
set_option maxHeartbeats 4000000 in
set_option maxRecDepth 100000 in
theorem t_LB1_229 {l : Launch} {D : va_G} {Y : CYs} {E : Nat → Nat} {p : Program} {e : Env} {s : State} {m : MethodId} {args : Array Value} {below : List Frame} {meth : Method} {c : Code} {wt : Nat → Int32} {v3 : Int32} {v4 : Int32} {cells slots : Nat} {Q : State → Prop} {A : Nat → Prop} {Rs : va_W} (hF : LFr p s m args c D Y E Rs A) (hcs : cells ≤ room_1.cells ∧ slots ≤ room_1.slots) {iw qs qw : Nat} (hw : Rs[iw]? = some (qw, .inl (Y.1, 3, .inl wt))) {o : Unit × Sta} (kx : ∀ (H : Heap) (locs : List Loc) (ls : Array Slot), va_P D vwCl (Rs ++ wd Y E o.2 0 LC) H → va_S A s.heap H locs → lv_has ls 18 [(0, .ref qs), (1, .ref (E 0)), (3, .int v3), (4, .int v4)] → W p l e room_1 s m args below meth c H locs cells slots Q (F0 m 483 ls [])) (k127 : Int32 → Sta → Option (Unit × Sta)) (k136 : Int32 → Int32 → Sta → Option (Unit × Sta)) (k216 : Int32 → Int32 → Int32 → Int32 → Int32 → Sta → Option (Unit × Sta)) (hk127 : ∀ (v6 : Int32) (σ : Sta) (H : Heap) (locs : List Loc) (ls : Array Slot), k127 v6 σ = some o → va_P D vwCl (Rs ++ wd Y E σ 0 LC) H → va_S A s.heap H locs → lv_has ls 18 [(0, .ref qs), (1, .ref (E 0)), (3, .int v3), (4, .int v4), (5, .ref qw), (6, .int v6)] → W p l e room_1 s m args below meth c H locs cells slots Q (F0 m 127 ls [])) (hk136 : ∀ (v6 : Int32) (v7 : Int32) (σ : Sta) (H : Heap) (locs : List Loc) (ls : Array Slot), k136 v6 v7 σ = some o → va_P D vwCl (Rs ++ wd Y E σ 0 LC) H → va_S A s.heap H locs → lv_has ls 18 [(0, .ref qs), (1, .ref (E 0)), (3, .int v3), (4, .int v4), (5, .ref qw), (6, .int v6), (7, .int v7)] → W p l e room_1 s m args below meth c H locs cells slots Q (F0 m 136 ls [])) (hk216 : ∀ (v6 : Int32) (v7 : Int32) (v8 : Int32) (v9 : Int32) (v10 : Int32) (σ : Sta) (H : Heap) (locs : List Loc) (ls : Array Slot), k216 v6 v7 v8 v9 v10 σ = some o → va_P D vwCl (Rs ++ wd Y E σ 0 LC) H → va_S A s.heap H locs → lv_has ls 18 [(0, .ref qs), (1, .ref (E 0)), (3, .int v3), (4, .int v4), (5, .ref qw), (6, .int v6), (7, .int v7), (8, .int v8), (9, .int v9), (10, .int v10)] → W p l e room_1 s m args below meth c H locs cells slots Q (F0 m 216 ls [])) : ∀ (n : Nat) (v6 : Int32) (v7 : Int32) (v8 : Int32) (v9 : Int32) (v10 : Int32) (v11 : Int64) (v13 : Int32) (σ : Sta) (H : Heap) (locs : List Loc) (ls : Array Slot), f_LB1_229 wt v3 v4 k127 k136 k216 n v6 v7 v8 v9 v10 v11 v13 σ = some o → va_P D vwCl (Rs ++ wd Y E σ 0 LC) H → va_S A s.heap H locs → lv_has ls 18 [(0, .ref qs), (1, .ref (E 0)), (3, .int v3), (4, .int v4), (5, .ref qw), (6, .int v6), (7, .int v7), (8, .int v8), (9, .int v9), (10, .int v10), (11, .long v11), (13, .int v13)] → W p l e room_1 s m args below meth c H locs cells slots Q (F0 m 229 ls []) := by
  intro n
  induction n with
  | zero =>
    intro v6 v7 v8 v9 v10 v11 v13 σ H locs ls h hP hS hl
    exact nomatch (show (none : Option (Unit × Sta)) = some o from h)
  | succ n ih =>
    intro v6 v7 v8 v9 v10 v11 v13 σ H locs ls h hP hS hl
    rw [f_LB1_229] at h
    obtain ⟨hC, hb, hml, hD, hSW, hA⟩ := id hF
    have hx := hC.1
    refine lv_iload hx hb dL_law_229 (lv_at hl 11 rfl) ?_
    refine lv_iconst (v := 3) hx hb dL_law_231 (by decide) ?_
    refine lv_icmp_ge (tgt := 263) hx hb dL_law_232 (by decide) (fun c1 => ?_) (fun c1 => ?_)
    · have h := of_t h c1
      refine lv_lconst (v := 0) hx hb dL_law_263 (by decide) ?_
      refine lv_lstore (lv' := [(13, .long 0), (0, .ref qs), (1, .ref (E 0)), (3, .int v3), (4, .int v4), (5, .ref qw), (6, .int v6), (7, .int v7), (8, .int v8), (9, .int v9), (10, .int v10), (11, .long v11)]) hx hb dL_law_264 hl (by decide) rfl (fun ls hl => ?_)
      refine lv_iconst (v := 0) hx hb dL_law_266 (by decide) ?_
      refine lv_istore (lv' := [(15, .int 0), (13, .long 0), (0, .ref qs), (1, .ref (E 0)), (3, .int v3), (4, .int v4), (5, .ref qw), (6, .int v6), (7, .int v7), (8, .int v8), (9, .int v9), (10, .int v10), (11, .long v11)]) hx hb dL_law_267 hl (by decide) rfl (fun ls hl => ?_)
      refine lv_iconst (v := 0) hx hb dL_law_269 (by decide) ?_
      refine lv_istore (lv' := [(16, .int 0), (15, .int 0), (13, .long 0), (0, .ref qs), (1, .ref (E 0)), (3, .int v3), (4, .int v4), (5, .ref qw), (6, .int v6), (7, .int v7), (8, .int v8), (9, .int v9), (10, .int v10), (11, .long v11)]) hx hb dL_law_270 hl (by decide) rfl (fun ls hl => ?_)
      exact t_LB1_272 hF hcs hw kx k127 k136 k216 hk127 hk136 hk216 FU v6 v7 v8 v9 v10 v11 0 0 0 σ _ _ _ h hP hS (lv_sub hl [3, 4, 5, 6, 7, 8, 9, 10, 11, 12, 13, 2, 1, 0] rfl)
    · have h := of_f h c1
      refine lv_lload hx hb dL_law_235 (lv_at hl 10 rfl) ?_
      refine lv_aload hx hb dL_law_237 (lv_at hl 4 rfl) ?_
      refine lv_iload hx hb dL_law_239 (lv_at hl 11 rfl) ?_
      obtain ⟨g2, h⟩ := of_gd h
      refine va_iald hx hb hC.2.2.2.1 hP iw 0 (rs_at hw) rfl g2 dL_law_241 ?_
      refine lv_i2l (v := (wt (v13.toNatClampNeg)).toInt64) hx hb dL_law_242 rfl ?_
      refine lv_aload_n hx hb dL_law_243 rfl (lv_at hl 1 rfl) ?_
      refine lv_iload hx hb dL_law_244 (lv_at hl 6 rfl) ?_
      refine lv_iload hx hb dL_law_246 (lv_at hl 9 rfl) ?_
      refine lv_iload hx hb dL_law_248 (lv_at hl 11 rfl) ?_
      obtain ⟨r3, σ4, g5, h⟩ := of_bnd h
      refine y_VL (As := [.int v7, .int v10, .int v13]) (rest := [.long ((wt (v13.toNatClampNeg)).toInt64), .long v11]) hF hl hP hS (c_X8_gain g5) (cw_L_83 hC rfl rfl ⟨Nat.le_of_ble_eq_true rfl, Nat.le_of_ble_eq_true rfl⟩) lc_0 rfl rfl rfl (Nat.le_of_ble_eq_true rfl) dL_law_250 hcs (fun H locs hP hS => ?_)
      refine lv_lmul hx hb dL_law_253 ?_
      refine lv_ladd hx hb dL_law_254 ?_
      refine lv_topl (fun x6 ex6 => ?_)
      have h := of_lt h ex6
      refine lv_lstore (lv' := [(11, .long x6), (0, .ref qs), (1, .ref (E 0)), (3, .int v3), (4, .int v4), (5, .ref qw), (6, .int v6), (7, .int v7), (8, .int v8), (9, .int v9), (10, .int v10), (13, .int v13)]) hx hb dL_law_255 hl (by decide) rfl (fun ls hl => ?_)
      obtain ⟨x7, ex7⟩ : ∃ y : Int32, y = v13 + 1 := ⟨_, rfl⟩
      have h := of_lt h ex7
      refine lv_iinc (v := x7) (lv' := [(13, .int x7), (11, .long x6), (0, .ref qs), (1, .ref (E 0)), (3, .int v3), (4, .int v4), (5, .ref qw), (6, .int v6), (7, .int v7), (8, .int v8), (9, .int v9), (10, .int v10)]) hx hb dL_law_257 hl (k := 11) rfl (by rw [ex7]; rfl) (by decide) rfl (fun ls hl => ?_)
      refine lv_goto (tgt := 229) hx hb dL_law_260 (by decide) ?_
      exact ih v6 v7 v8 v9 v10 x6 x7 σ4 _ _ _ h hP hS (lv_sub hl [2, 3, 4, 5, 6, 7, 8, 9, 10, 11, 1, 0] rfl)

def f_LB1_216 (wt : Nat → Int32) (v3 : Int32) (v4 : Int32) (k127 : Int32 → Sta → Option (Unit × Sta)) (k136 : Int32 → Int32 → Sta → Option (Unit × Sta)) : Nat → Int32 → Int32 → Int32 → Int32 → Int32 → Sta → Option (Unit × Sta)
  | 0, _, _, _, _, _, _ => none
  | n + 1, v6, v7, v8, v9, v10, σ => if v9 ≤ v10 then
      lt (v7 + 1) (fun x2 =>
      k136 v6 x2 σ)
    else
      f_LB1_229 wt v3 v4 k127 k136 (f_LB1_216 wt v3 v4 k127 k136 n) FU v6 v7 v8 v9 v10 0 0 σ
set_option maxHeartbeats 4000000 in
set_option maxRecDepth 100000 in
theorem t_LB1_216 {l : Launch} {D : va_G} {Y : CYs} {E : Nat → Nat} {p : Program} {e : Env} {s : State} {m : MethodId} {args : Array Value} {below : List Frame} {meth : Method} {c : Code} {wt : Nat → Int32} {v3 : Int32} {v4 : Int32} {cells slots : Nat} {Q : State → Prop} {A : Nat → Prop} {Rs : va_W} (hF : LFr p s m args c D Y E Rs A) (hcs : cells ≤ room_1.cells ∧ slots ≤ room_1.slots) {iw qs qw : Nat} (hw : Rs[iw]? = some (qw, .inl (Y.1, 3, .inl wt))) {o : Unit × Sta} (kx : ∀ (H : Heap) (locs : List Loc) (ls : Array Slot), va_P D vwCl (Rs ++ wd Y E o.2 0 LC) H → va_S A s.heap H locs → lv_has ls 18 [(0, .ref qs), (1, .ref (E 0)), (3, .int v3), (4, .int v4)] → W p l e room_1 s m args below meth c H locs cells slots Q (F0 m 483 ls [])) (k127 : Int32 → Sta → Option (Unit × Sta)) (k136 : Int32 → Int32 → Sta → Option (Unit × Sta)) (hk127 : ∀ (v6 : Int32) (σ : Sta) (H : Heap) (locs : List Loc) (ls : Array Slot), k127 v6 σ = some o → va_P D vwCl (Rs ++ wd Y E σ 0 LC) H → va_S A s.heap H locs → lv_has ls 18 [(0, .ref qs), (1, .ref (E 0)), (3, .int v3), (4, .int v4), (5, .ref qw), (6, .int v6)] → W p l e room_1 s m args below meth c H locs cells slots Q (F0 m 127 ls [])) (hk136 : ∀ (v6 : Int32) (v7 : Int32) (σ : Sta) (H : Heap) (locs : List Loc) (ls : Array Slot), k136 v6 v7 σ = some o → va_P D vwCl (Rs ++ wd Y E σ 0 LC) H → va_S A s.heap H locs → lv_has ls 18 [(0, .ref qs), (1, .ref (E 0)), (3, .int v3), (4, .int v4), (5, .ref qw), (6, .int v6), (7, .int v7)] → W p l e room_1 s m args below meth c H locs cells slots Q (F0 m 136 ls [])) : ∀ (n : Nat) (v6 : Int32) (v7 : Int32) (v8 : Int32) (v9 : Int32) (v10 : Int32) (σ : Sta) (H : Heap) (locs : List Loc) (ls : Array Slot), f_LB1_216 wt v3 v4 k127 k136 n v6 v7 v8 v9 v10 σ = some o → va_P D vwCl (Rs ++ wd Y E σ 0 LC) H → va_S A s.heap H locs → lv_has ls 18 [(0, .ref qs), (1, .ref (E 0)), (3, .int v3), (4, .int v4), (5, .ref qw), (6, .int v6), (7, .int v7), (8, .int v8), (9, .int v9), (10, .int v10)] → W p l e room_1 s m args below meth c H locs cells slots Q (F0 m 216 ls []) := by
  intro n
  induction n with
  | zero =>
    intro v6 v7 v8 v9 v10 σ H locs ls h hP hS hl
    exact nomatch (show (none : Option (Unit × Sta)) = some o from h)
  | succ n ih =>
    intro v6 v7 v8 v9 v10 σ H locs ls h hP hS hl
    rw [f_LB1_216] at h
    obtain ⟨hC, hb, hml, hD, hSW, hA⟩ := id hF
    have hx := hC.1
    refine lv_iload hx hb dL_law_216 (lv_at hl 9 rfl) ?_
    refine lv_iload hx hb dL_law_218 (lv_at hl 8 rfl) ?_
    refine lv_icmp_ge (tgt := 439) hx hb dL_law_220 (by decide) (fun c1 => ?_) (fun c1 => ?_)
    · have h := of_t h c1
      obtain ⟨x2, ex2⟩ : ∃ y : Int32, y = v7 + 1 := ⟨_, rfl⟩
      have h := of_lt h ex2
      refine lv_iinc (v := x2) (lv' := [(7, .int x2), (0, .ref qs), (1, .ref (E 0)), (3, .int v3), (4, .int v4), (5, .ref qw), (6, .int v6), (8, .int v8), (9, .int v9), (10, .int v10)]) hx hb dL_law_439 hl (k := 6) rfl (by rw [ex2]; rfl) (by decide) rfl (fun ls hl => ?_)
      refine lv_goto (tgt := 136) hx hb dL_law_442 (by decide) ?_
      exact hk136 v6 x2 σ _ _ _ h hP hS (lv_sub hl [1, 2, 3, 4, 5, 6, 0] rfl)
    · have h := of_f h c1
      refine lv_lconst (v := 0) hx hb dL_law_223 (by decide) ?_
      refine lv_lstore (lv' := [(11, .long 0), (0, .ref qs), (1, .ref (E 0)), (3, .int v3), (4, .int v4), (5, .ref qw), (6, .int v6), (7, .int v7), (8, .int v8), (9, .int v9), (10, .int v10)]) hx hb dL_law_224 hl (by decide) rfl (fun ls hl => ?_)
      refine lv_iconst (v := 0) hx hb dL_law_226 (by decide) ?_
      refine lv_istore (lv' := [(13, .int 0), (11, .long 0), (0, .ref qs), (1, .ref (E 0)), (3, .int v3), (4, .int v4), (5, .ref qw), (6, .int v6), (7, .int v7), (8, .int v8), (9, .int v9), (10, .int v10)]) hx hb dL_law_227 hl (by decide) rfl (fun ls hl => ?_)
      exact t_LB1_229 hF hcs hw kx k127 k136 (f_LB1_216 wt v3 v4 k127 k136 n) hk127 hk136 ih FU v6 v7 v8 v9 v10 0 0 σ _ _ _ h hP hS (lv_sub hl [2, 3, 4, 5, 6, 7, 8, 9, 10, 11, 1, 0] rfl)

def f_LB1_213 (wt : Nat → Int32) (v3 : Int32) (v4 : Int32) (k127 : Int32 → Sta → Option (Unit × Sta)) (k136 : Int32 → Int32 → Sta → Option (Unit × Sta)) (v6 : Int32) (v7 : Int32) (v8 : Int32) (v9 : Int32) (σ : Sta) : Option (Unit × Sta) :=
  f_LB1_216 wt v3 v4 k127 k136 FU v6 v7 v8 v9 0 σ
set_option maxHeartbeats 4000000 in
set_option maxRecDepth 100000 in
theorem t_LB1_213 {l : Launch} {D : va_G} {Y : CYs} {E : Nat → Nat} {p : Program} {e : Env} {s : State} {m : MethodId} {args : Array Value} {below : List Frame} {meth : Method} {c : Code} {wt : Nat → Int32} {v3 : Int32} {v4 : Int32} {cells slots : Nat} {Q : State → Prop} {A : Nat → Prop} {Rs : va_W} (hF : LFr p s m args c D Y E Rs A) (hcs : cells ≤ room_1.cells ∧ slots ≤ room_1.slots) {iw qs qw : Nat} (hw : Rs[iw]? = some (qw, .inl (Y.1, 3, .inl wt))) {o : Unit × Sta} (kx : ∀ (H : Heap) (locs : List Loc) (ls : Array Slot), va_P D vwCl (Rs ++ wd Y E o.2 0 LC) H → va_S A s.heap H locs → lv_has ls 18 [(0, .ref qs), (1, .ref (E 0)), (3, .int v3), (4, .int v4)] → W p l e room_1 s m args below meth c H locs cells slots Q (F0 m 483 ls [])) (k127 : Int32 → Sta → Option (Unit × Sta)) (k136 : Int32 → Int32 → Sta → Option (Unit × Sta)) (hk127 : ∀ (v6 : Int32) (σ : Sta) (H : Heap) (locs : List Loc) (ls : Array Slot), k127 v6 σ = some o → va_P D vwCl (Rs ++ wd Y E σ 0 LC) H → va_S A s.heap H locs → lv_has ls 18 [(0, .ref qs), (1, .ref (E 0)), (3, .int v3), (4, .int v4), (5, .ref qw), (6, .int v6)] → W p l e room_1 s m args below meth c H locs cells slots Q (F0 m 127 ls [])) (hk136 : ∀ (v6 : Int32) (v7 : Int32) (σ : Sta) (H : Heap) (locs : List Loc) (ls : Array Slot), k136 v6 v7 σ = some o → va_P D vwCl (Rs ++ wd Y E σ 0 LC) H → va_S A s.heap H locs → lv_has ls 18 [(0, .ref qs), (1, .ref (E 0)), (3, .int v3), (4, .int v4), (5, .ref qw), (6, .int v6), (7, .int v7)] → W p l e room_1 s m args below meth c H locs cells slots Q (F0 m 136 ls [])) : ∀ (v6 : Int32) (v7 : Int32) (v8 : Int32) (v9 : Int32) (σ : Sta) (H : Heap) (locs : List Loc) (ls : Array Slot), f_LB1_213 wt v3 v4 k127 k136 v6 v7 v8 v9 σ = some o → va_P D vwCl (Rs ++ wd Y E σ 0 LC) H → va_S A s.heap H locs → lv_has ls 18 [(0, .ref qs), (1, .ref (E 0)), (3, .int v3), (4, .int v4), (5, .ref qw), (6, .int v6), (7, .int v7), (8, .int v8), (9, .int v9)] → W p l e room_1 s m args below meth c H locs cells slots Q (F0 m 213 ls []) := by
  intro v6 v7 v8 v9 σ H locs ls h hP hS hl
  unfold f_LB1_213 at h
  obtain ⟨hC, hb, hml, hD, hSW, hA⟩ := id hF
  have hx := hC.1
  refine lv_iconst (v := 0) hx hb dL_law_213 (by decide) ?_
  refine lv_istore (lv' := [(10, .int 0), (0, .ref qs), (1, .ref (E 0)), (3, .int v3), (4, .int v4), (5, .ref qw), (6, .int v6), (7, .int v7), (8, .int v8), (9, .int v9)]) hx hb dL_law_214 hl (by decide) rfl (fun ls hl => ?_)
  exact t_LB1_216 hF hcs hw kx k127 k136 hk127 hk136 FU v6 v7 v8 v9 0 σ _ _ _ h hP hS (lv_sub hl [1, 2, 3, 4, 5, 6, 7, 8, 9, 0] rfl)

def f_LB1_136 (wt : Nat → Int32) (v3 : Int32) (v4 : Int32) (k127 : Int32 → Sta → Option (Unit × Sta)) : Nat → Int32 → Int32 → Sta → Option (Unit × Sta)
  | 0, _, _, _ => none
  | n + 1, v6, v7, σ => bnd (f_X8_count 3 σ) (fun r1 σ2 =>
    if r1 ≤ v7 then
      lt (v6 + 1) (fun x5 =>
      k127 x5 σ2)
    else
      bnd (f_X8_takes v4 v7 v6 σ2) (fun r6 σ7 =>
      bnd (f_X8_choices v7 σ7) (fun r9 σ10 =>
      lt (if 0 < r9 then r9 else 0) (fun x12 =>
      if x12 = 0 then
        if r6 = -1 then
          bnd (f_X8_worth v4 v7 v6 σ10) (fun r17 σ18 =>
          if lg_cmp r17 0 = 0 then
            f_LB1_213 wt v3 v4 k127 (f_LB1_136 wt v3 v4 k127 n) v6 v7 r6 x12 σ18
          else
            none)
        else
          none
      else
        if r6 < 0 then
          none
        else
          if r6 < x12 then
            f_LB1_213 wt v3 v4 k127 (f_LB1_136 wt v3 v4 k127 n) v6 v7 r6 x12 σ10
          else
            none))))
set_option maxHeartbeats 4000000 in
set_option maxRecDepth 100000 in
theorem t_LB1_136 {l : Launch} {D : va_G} {Y : CYs} {E : Nat → Nat} {p : Program} {e : Env} {s : State} {m : MethodId} {args : Array Value} {below : List Frame} {meth : Method} {c : Code} {wt : Nat → Int32} {v3 : Int32} {v4 : Int32} {cells slots : Nat} {Q : State → Prop} {A : Nat → Prop} {Rs : va_W} (hF : LFr p s m args c D Y E Rs A) (hcs : cells ≤ room_1.cells ∧ slots ≤ room_1.slots) {iw qs qw : Nat} (hw : Rs[iw]? = some (qw, .inl (Y.1, 3, .inl wt))) {o : Unit × Sta} (kx : ∀ (H : Heap) (locs : List Loc) (ls : Array Slot), va_P D vwCl (Rs ++ wd Y E o.2 0 LC) H → va_S A s.heap H locs → lv_has ls 18 [(0, .ref qs), (1, .ref (E 0)), (3, .int v3), (4, .int v4)] → W p l e room_1 s m args below meth c H locs cells slots Q (F0 m 483 ls [])) (k127 : Int32 → Sta → Option (Unit × Sta)) (hk127 : ∀ (v6 : Int32) (σ : Sta) (H : Heap) (locs : List Loc) (ls : Array Slot), k127 v6 σ = some o → va_P D vwCl (Rs ++ wd Y E σ 0 LC) H → va_S A s.heap H locs → lv_has ls 18 [(0, .ref qs), (1, .ref (E 0)), (3, .int v3), (4, .int v4), (5, .ref qw), (6, .int v6)] → W p l e room_1 s m args below meth c H locs cells slots Q (F0 m 127 ls [])) : ∀ (n : Nat) (v6 : Int32) (v7 : Int32) (σ : Sta) (H : Heap) (locs : List Loc) (ls : Array Slot), f_LB1_136 wt v3 v4 k127 n v6 v7 σ = some o → va_P D vwCl (Rs ++ wd Y E σ 0 LC) H → va_S A s.heap H locs → lv_has ls 18 [(0, .ref qs), (1, .ref (E 0)), (3, .int v3), (4, .int v4), (5, .ref qw), (6, .int v6), (7, .int v7)] → W p l e room_1 s m args below meth c H locs cells slots Q (F0 m 136 ls []) := by
  intro n
  induction n with
  | zero =>
    intro v6 v7 σ H locs ls h hP hS hl
    exact nomatch (show (none : Option (Unit × Sta)) = some o from h)
  | succ n ih =>
    intro v6 v7 σ H locs ls h hP hS hl
    rw [f_LB1_136] at h
    obtain ⟨hC, hb, hml, hD, hSW, hA⟩ := id hF
    have hx := hC.1
    refine lv_iload hx hb dL_law_136 (lv_at hl 6 rfl) ?_
    refine lv_aload_n hx hb dL_law_138 rfl (lv_at hl 1 rfl) ?_
    refine lv_iconst (v := 3) hx hb dL_law_139 (by decide) ?_
    obtain ⟨r1, σ2, g3, h⟩ := of_bnd h
    refine y_VI (As := [.int 3]) (rest := [.int v7]) hF hl hP hS (c_X8_count g3) (cw_L_64 hC rfl rfl ⟨Nat.le_of_ble_eq_true rfl, Nat.le_of_ble_eq_true rfl⟩) lc_0 rfl rfl rfl (Nat.le_of_ble_eq_true rfl) dL_law_140 hcs (fun H locs hP hS => ?_)
    refine lv_icmp_ge (tgt := 445) hx hb dL_law_143 (by decide) (fun c4 => ?_) (fun c4 => ?_)
    · have h := of_t h c4
      obtain ⟨x5, ex5⟩ : ∃ y : Int32, y = v6 + 1 := ⟨_, rfl⟩
      have h := of_lt h ex5
      refine lv_iinc (v := x5) (lv' := [(6, .int x5), (0, .ref qs), (1, .ref (E 0)), (3, .int v3), (4, .int v4), (5, .ref qw), (7, .int v7)]) hx hb dL_law_445 hl (k := 5) rfl (by rw [ex5]; rfl) (by decide) rfl (fun ls hl => ?_)
      refine lv_goto (tgt := 127) hx hb dL_law_448 (by decide) ?_
      exact hk127 x5 σ2 _ _ _ h hP hS (lv_sub hl [1, 2, 3, 4, 5, 0] rfl)
    · have h := of_f h c4
      refine lv_aload_n hx hb dL_law_146 rfl (lv_at hl 1 rfl) ?_
      refine lv_iload hx hb dL_law_147 (lv_at hl 3 rfl) ?_
      refine lv_iload hx hb dL_law_149 (lv_at hl 6 rfl) ?_
      refine lv_iload hx hb dL_law_151 (lv_at hl 5 rfl) ?_
      obtain ⟨r6, σ7, g8, h⟩ := of_bnd h
      refine y_VI (As := [.int v4, .int v7, .int v6]) (rest := []) hF hl hP hS (c_X8_takes g8) (cw_L_67 hC rfl rfl ⟨Nat.le_of_ble_eq_true rfl, Nat.le_of_ble_eq_true rfl⟩) lc_0 rfl rfl rfl (Nat.le_of_ble_eq_true rfl) dL_law_153 hcs (fun H locs hP hS => ?_)
      refine lv_istore (lv' := [(8, .int r6), (0, .ref qs), (1, .ref (E 0)), (3, .int v3), (4, .int v4), (5, .ref qw), (6, .int v6), (7, .int v7)]) hx hb dL_law_156 hl (by decide) rfl (fun ls hl => ?_)
      refine lv_iconst (v := 0) hx hb dL_law_158 (by decide) ?_
      refine lv_aload_n hx hb dL_law_159 rfl (lv_at hl 2 rfl) ?_
      refine lv_iload hx hb dL_law_160 (lv_at hl 7 rfl) ?_
      obtain ⟨r9, σ10, g11, h⟩ := of_bnd h
      refine y_VI (As := [.int v7]) (rest := [.int 0]) hF hl hP hS (c_X8_choices g11) (cw_L_71 hC rfl rfl ⟨Nat.le_of_ble_eq_true rfl, Nat.le_of_ble_eq_true rfl⟩) lc_0 rfl rfl rfl (Nat.le_of_ble_eq_true rfl) dL_law_162 hcs (fun H locs hP hS => ?_)
      refine va_mmax (R := room_1) (rest := []) hx hb (by rw [hml]; exact hl.1.symm) hC.2.2.1 (hC.2.1 (Cond.methodLink RL 74 Lib.Math.max.name) (gw_t (tb6 (List.mem_of_getElem? (i := 151) rfl)) rfl)) (hC.2.1 (Cond.static Lib.Math.max.name) (gw_t (tb4 (List.mem_of_getElem? (i := 55) rfl)) rfl)) (hC.2.1 (Cond.initialized "java/lang/Math") (gw_t (tb1 (List.mem_of_getElem? (i := 16) rfl)) rfl)) (hC.2.1 (Cond.code Lib.Math.max.name Lib.Math.max.code 2 (some .int)) (gw_t (tb4 (List.mem_of_getElem? (i := 56) rfl)) rfl)) (Nat.le_of_ble_eq_true rfl) (Nat.le_of_ble_eq_true rfl) hcs.1 hcs.2 dL_law_165 ?_
      refine lv_topi (fun x12 ex12 => ?_)
      have h := of_lt h ex12
      refine lv_istore (lv' := [(9, .int x12), (8, .int r6), (0, .ref qs), (1, .ref (E 0)), (3, .int v3), (4, .int v4), (5, .ref qw), (6, .int v6), (7, .int v7)]) hx hb dL_law_168 hl (by decide) rfl (fun ls hl => ?_)
      refine lv_iload hx hb dL_law_170 (lv_at hl 0 rfl) ?_
      refine lv_if_ne (tgt := 199) hx hb dL_law_172 (by decide) (fun c13 => ?_) (fun c13 => ?_)
      · have h := of_f h c13
        refine lv_iload hx hb dL_law_199 (lv_at hl 1 rfl) ?_
        refine lv_if_lt (tgt := 211) hx hb dL_law_201 (by decide) (fun c14 => ?_) (fun c14 => ?_)
        · have h := of_t h c14
          exact nomatch h
        · have h := of_f h c14
          refine lv_iload hx hb dL_law_204 (lv_at hl 1 rfl) ?_
          refine lv_iload hx hb dL_law_206 (lv_at hl 0 rfl) ?_
          refine lv_icmp_lt (tgt := 213) hx hb dL_law_208 (by decide) (fun c15 => ?_) (fun c15 => ?_)
          · have h := of_t h c15
            exact t_LB1_213 hF hcs hw kx k127 (f_LB1_136 wt v3 v4 k127 n) hk127 ih v6 v7 r6 x12 σ10 _ _ _ h hP hS (lv_sub hl [2, 3, 4, 5, 6, 7, 8, 1, 0] rfl)
          · have h := of_f h c15
            exact nomatch h
      · have h := of_t h c13
        refine lv_iload hx hb dL_law_175 (lv_at hl 1 rfl) ?_
        refine lv_iconst (v := -1) hx hb dL_law_177 (by decide) ?_
        refine lv_icmp_ne (tgt := 211) hx hb dL_law_178 (by decide) (fun c16 => ?_) (fun c16 => ?_)
        · have h := of_f h c16
          exact nomatch h
        · have h := of_t h c16
          refine lv_aload_n hx hb dL_law_181 rfl (lv_at hl 3 rfl) ?_
          refine lv_iload hx hb dL_law_182 (lv_at hl 5 rfl) ?_
          refine lv_iload hx hb dL_law_184 (lv_at hl 8 rfl) ?_
          refine lv_iload hx hb dL_law_186 (lv_at hl 7 rfl) ?_
          obtain ⟨r17, σ18, g19, h⟩ := of_bnd h
          refine y_VL (As := [.int v4, .int v7, .int v6]) (rest := []) hF hl hP hS (c_X8_worth g19) (cw_L_79 hC rfl rfl ⟨Nat.le_of_ble_eq_true rfl, Nat.le_of_ble_eq_true rfl⟩) lc_0 rfl rfl rfl (Nat.le_of_ble_eq_true rfl) dL_law_188 hcs (fun H locs hP hS => ?_)
          refine lv_lconst (v := 0) hx hb dL_law_191 (by decide) ?_
          refine W.lcmp hx hb dL_law_192 ?_
          refine lv_if_eq (tgt := 213) hx hb dL_law_193 (by decide) (fun c20 => ?_) (fun c20 => ?_)
          · have h := of_t h c20
            exact t_LB1_213 hF hcs hw kx k127 (f_LB1_136 wt v3 v4 k127 n) hk127 ih v6 v7 r6 x12 σ18 _ _ _ h hP hS (lv_sub hl [2, 3, 4, 5, 6, 7, 8, 1, 0] rfl)
          · have h := of_f h c20
            refine lv_goto (tgt := 211) hx hb dL_law_196 (by decide) ?_
            exact nomatch h

def f_LB1_127 (wt : Nat → Int32) (v3 : Int32) (v4 : Int32) : Nat → Int32 → Sta → Option (Unit × Sta)
  | 0, _, _ => none
  | n + 1, v6, σ => if v3 < v6 then
      bnd (f_X8_chance v4 σ) (fun r2 σ3 =>
      bnd (f_X8_reach v3 1 σ3) (fun r5 σ6 =>
      if r2 < r5 then
        none
      else
        bnd (f_X8_chance v4 σ6) (fun r9 σ10 =>
        bnd (f_X8_reach v3 0 σ10) (fun r12 σ13 =>
        if r9 ≤ r12 then
          some ((), σ13)
        else
          none))))
    else
      f_LB1_136 wt v3 v4 (f_LB1_127 wt v3 v4 n) FU v6 0 σ
set_option maxHeartbeats 4000000 in
set_option maxRecDepth 100000 in
theorem t_LB1_127 {l : Launch} {D : va_G} {Y : CYs} {E : Nat → Nat} {p : Program} {e : Env} {s : State} {m : MethodId} {args : Array Value} {below : List Frame} {meth : Method} {c : Code} {wt : Nat → Int32} {v3 : Int32} {v4 : Int32} {cells slots : Nat} {Q : State → Prop} {A : Nat → Prop} {Rs : va_W} (hF : LFr p s m args c D Y E Rs A) (hcs : cells ≤ room_1.cells ∧ slots ≤ room_1.slots) {iw qs qw : Nat} (hw : Rs[iw]? = some (qw, .inl (Y.1, 3, .inl wt))) {o : Unit × Sta} (kx : ∀ (H : Heap) (locs : List Loc) (ls : Array Slot), va_P D vwCl (Rs ++ wd Y E o.2 0 LC) H → va_S A s.heap H locs → lv_has ls 18 [(0, .ref qs), (1, .ref (E 0)), (3, .int v3), (4, .int v4)] → W p l e room_1 s m args below meth c H locs cells slots Q (F0 m 483 ls [])) : ∀ (n : Nat) (v6 : Int32) (σ : Sta) (H : Heap) (locs : List Loc) (ls : Array Slot), f_LB1_127 wt v3 v4 n v6 σ = some o → va_P D vwCl (Rs ++ wd Y E σ 0 LC) H → va_S A s.heap H locs → lv_has ls 18 [(0, .ref qs), (1, .ref (E 0)), (3, .int v3), (4, .int v4), (5, .ref qw), (6, .int v6)] → W p l e room_1 s m args below meth c H locs cells slots Q (F0 m 127 ls []) := by
  intro n
  induction n with
  | zero =>
    intro v6 σ H locs ls h hP hS hl
    exact nomatch (show (none : Option (Unit × Sta)) = some o from h)
  | succ n ih =>
    intro v6 σ H locs ls h hP hS hl
    rw [f_LB1_127] at h
    obtain ⟨hC, hb, hml, hD, hSW, hA⟩ := id hF
    have hx := hC.1
    refine lv_iload hx hb dL_law_127 (lv_at hl 5 rfl) ?_
    refine lv_iload_n hx hb dL_law_129 rfl (lv_at hl 2 rfl) ?_
    refine lv_icmp_gt (tgt := 451) hx hb dL_law_130 (by decide) (fun c1 => ?_) (fun c1 => ?_)
    · have h := of_t h c1
      refine lv_aload_n hx hb dL_law_451 rfl (lv_at hl 1 rfl) ?_
      refine lv_iload hx hb dL_law_452 (lv_at hl 3 rfl) ?_
      obtain ⟨r2, σ3, g4, h⟩ := of_bnd h
      refine y_VI (As := [.int v4]) (rest := []) hF hl hP hS (c_X8_chance g4) (cw_L_97 hC rfl rfl ⟨Nat.le_of_ble_eq_true rfl, Nat.le_of_ble_eq_true rfl⟩) lc_0 rfl rfl rfl (Nat.le_of_ble_eq_true rfl) dL_law_454 hcs (fun H locs hP hS => ?_)
      refine lv_aload_n hx hb dL_law_457 rfl (lv_at hl 1 rfl) ?_
      refine lv_iload_n hx hb dL_law_458 rfl (lv_at hl 2 rfl) ?_
      refine lv_iconst (v := 1) hx hb dL_law_459 (by decide) ?_
      obtain ⟨r5, σ6, g7, h⟩ := of_bnd h
      refine y_VI (As := [.int v3, .int 1]) (rest := [.int r2]) hF hl hP hS (c_X8_reach g7) (cw_L_100 hC rfl rfl ⟨Nat.le_of_ble_eq_true rfl, Nat.le_of_ble_eq_true rfl⟩) lc_0 rfl rfl rfl (Nat.le_of_ble_eq_true rfl) dL_law_460 hcs (fun H locs hP hS => ?_)
      refine lv_icmp_lt (tgt := 481) hx hb dL_law_463 (by decide) (fun c8 => ?_) (fun c8 => ?_)
      · have h := of_t h c8
        exact nomatch h
      · have h := of_f h c8
        refine lv_aload_n hx hb dL_law_466 rfl (lv_at hl 1 rfl) ?_
        refine lv_iload hx hb dL_law_467 (lv_at hl 3 rfl) ?_
        obtain ⟨r9, σ10, g11, h⟩ := of_bnd h
        refine y_VI (As := [.int v4]) (rest := []) hF hl hP hS (c_X8_chance g11) (cw_L_97 hC rfl rfl ⟨Nat.le_of_ble_eq_true rfl, Nat.le_of_ble_eq_true rfl⟩) lc_0 rfl rfl rfl (Nat.le_of_ble_eq_true rfl) dL_law_469 hcs (fun H locs hP hS => ?_)
        refine lv_aload_n hx hb dL_law_472 rfl (lv_at hl 1 rfl) ?_
        refine lv_iload_n hx hb dL_law_473 rfl (lv_at hl 2 rfl) ?_
        refine lv_iconst (v := 0) hx hb dL_law_474 (by decide) ?_
        obtain ⟨r12, σ13, g14, h⟩ := of_bnd h
        refine y_VI (As := [.int v3, .int 0]) (rest := [.int r9]) hF hl hP hS (c_X8_reach g14) (cw_L_100 hC rfl rfl ⟨Nat.le_of_ble_eq_true rfl, Nat.le_of_ble_eq_true rfl⟩) lc_0 rfl rfl rfl (Nat.le_of_ble_eq_true rfl) dL_law_475 hcs (fun H locs hP hS => ?_)
        refine lv_icmp_le (tgt := 483) hx hb dL_law_478 (by decide) (fun c15 => ?_) (fun c15 => ?_)
        · have h := of_t h c15
          cases h
          exact kx H locs ls hP hS (lv_sub hl [0, 1, 2, 3] rfl)
        · have h := of_f h c15
          exact nomatch h
    · have h := of_f h c1
      refine lv_iconst (v := 0) hx hb dL_law_133 (by decide) ?_
      refine lv_istore (lv' := [(7, .int 0), (0, .ref qs), (1, .ref (E 0)), (3, .int v3), (4, .int v4), (5, .ref qw), (6, .int v6)]) hx hb dL_law_134 hl (by decide) rfl (fun ls hl => ?_)
      exact t_LB1_136 hF hcs hw kx (f_LB1_127 wt v3 v4 n) ih FU v6 0 σ _ _ _ h hP hS (lv_sub hl [1, 2, 3, 4, 5, 6, 0] rfl)

def f_LB1 (wt : Nat → Int32) (v3 : Int32) (v4 : Int32) (σ : Sta) : Option (Unit × Sta) :=
  bnd (f_X8_solve v3 σ) (fun r1 σ2 =>
  if r1 = v4 then
    f_LB1_127 wt v3 v4 FU 1 σ2
  else
    none)
set_option maxHeartbeats 4000000 in
set_option maxRecDepth 100000 in
theorem c_LB1 {l : Launch} {D : va_G} {Y : CYs} {E : Nat → Nat} {wt : Nat → Int32} {v3 : Int32} {v4 : Int32} {p : Program} {e : Env} {s : State} {m : MethodId} {args : Array Value} {below : List Frame} {meth : Method} {c : Code} {cells slots : Nat} {Q : State → Prop} {A : Nat → Prop} {Rs : va_W} (hF : LFr p s m args c D Y E Rs A) (hcs : cells ≤ room_1.cells ∧ slots ≤ room_1.slots) {iw qs qw : Nat} (hw : Rs[iw]? = some (qw, .inl (Y.1, 3, .inl wt))) {σ : Sta} {o : Unit × Sta} (kx : ∀ (H : Heap) (locs : List Loc) (ls : Array Slot), va_P D vwCl (Rs ++ wd Y E o.2 0 LC) H → va_S A s.heap H locs → lv_has ls 18 [(0, .ref qs), (1, .ref (E 0)), (3, .int v3), (4, .int v4)] → W p l e room_1 s m args below meth c H locs cells slots Q (F0 m 483 ls [])) {H : Heap} {locs : List Loc} {ls : Array Slot} (h : f_LB1 wt v3 v4 σ = some o) (hP : va_P D vwCl (Rs ++ wd Y E σ 0 LC) H) (hS : va_S A s.heap H locs) (hl : lv_has ls 18 [(0, .ref qs), (1, .ref (E 0)), (3, .int v3), (4, .int v4), (5, .ref qw)]) : W p l e room_1 s m args below meth c H locs cells slots Q (F0 m 112 ls []) := by
  unfold f_LB1 at h
  obtain ⟨hC, hb, hml, hD, hSW, hA⟩ := id hF
  have hx := hC.1
  refine lv_aload_n hx hb dL_law_112 rfl (lv_at hl 1 rfl) ?_
  refine lv_iload_n hx hb dL_law_113 rfl (lv_at hl 2 rfl) ?_
  obtain ⟨r1, σ2, g3, h⟩ := of_bnd h
  refine y_VI (As := [.int v3]) (rest := []) hF hl hP hS (c_X8_solve g3) (cw_L_61 hC rfl rfl ⟨Nat.le_of_ble_eq_true rfl, Nat.le_of_ble_eq_true rfl⟩) lc_0 rfl rfl rfl (Nat.le_of_ble_eq_true rfl) dL_law_114 hcs (fun H locs hP hS => ?_)
  refine lv_iload hx hb dL_law_117 (lv_at hl 3 rfl) ?_
  refine lv_icmp_eq (tgt := 124) hx hb dL_law_119 (by decide) (fun c4 => ?_) (fun c4 => ?_)
  · have h := of_t h c4
    refine lv_iconst (v := 1) hx hb dL_law_124 (by decide) ?_
    refine lv_istore (lv' := [(6, .int 1), (0, .ref qs), (1, .ref (E 0)), (3, .int v3), (4, .int v4), (5, .ref qw)]) hx hb dL_law_125 hl (by decide) rfl (fun ls hl => ?_)
    exact t_LB1_127 hF hcs hw kx FU 1 σ2 _ _ _ h hP hS (lv_sub hl [1, 2, 3, 4, 5, 0] rfl)
  · have h := of_f h c4
    exact nomatch h
