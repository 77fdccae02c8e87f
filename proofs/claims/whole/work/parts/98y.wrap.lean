/-! The law's wrappers: what they stand on (by wip/whole/wrap.py). -/
theorem vin0 : vp_in 0 1 := by
  unfold vp_in
  decide
abbrev loA (Y : CYs) (qo : Nat) (f : Nat → Int64) : Nat × va_E := (qo, .inl (Y.2.1, 1, .inr (.inl f)))
abbrev ldA (cD : ClassId) (qd : Nat) (f : Nat → UInt64) : Nat × va_E := (qd, .inl (cD, 1, .inr (.inr (.inr (.inl f)))))
theorem Met_ofNH {l : Launch} {y : MethodName} {cc : ByteArray} {nL mc ms : Nat} {ret : Option FieldType} {hh : List (Nat × Nat × Nat × Nat)} {rm : Room} {Y : CYs} {D : va_G} {As : List Value} {W0 : va_W} {Qc : Nat → Array Value → State → Outcome → State → Prop}
    (hy : plainName y.cls = true) (hn : (lg_sl As).length ≤ nL)
    (body : ∀ p e s m args below meth c, Ctx p s m args y.cls D Y → c.code = cc → c.maxLocals = nL → meth.sig.returnType = ret → meth.locks = false → SW (va_A W0 s.heap.size) s s.heap → va_P D vwCl W0 s.heap → va_D (va_A W0 s.heap.size) W0 → c.exceptionTable.toList = tableOf hh → ∀ ls, lv_has ls nL (lv_args 0 As) →
      W p l e rm s m args below meth c s.heap [] 0 0 (MQ below (Qc s.heap.size) args s mc ms (va_A W0 s.heap.size)) (F0 m 0 ls [])) (sz : Nat) :
    Met l y (Cond.codeWith y cc nL ret hh :: gW) rm (PcN W0 Y D sz As) (Qc sz) mc ms (va_A W0 sz) := by
  refine va_MetW (cc := cc) (maxL := nL) (ret := ret) (hh := hh) hy rfl ?_
  intro p e s m args below meth c s₁ B hml hv
  obtain ⟨rfl, hsz, hP, hK, hD0, hN, hSW⟩ := hv
  have hts := atoms_spec (ws := Cond.codeWith y cc nL ret hh :: gW) B.pre
  have htab := vx_table (x := y) B (hts _ List.mem_cons_self)
  have hown : s.vm.findClass y.cls = some m.cls := findClass_of_methodNamed B.named
  subst hsz
  have hl := lv_entry As (n := nL) hn
  rw [lg_entry_eq]
  exact body p e s m _ below meth c ⟨B.exec, fun w h => hts w (List.mem_cons_of_mem _ h), hown, hK, hN⟩ B.bytes hml B.returns B.notSynchronized hSW hP (hD0.self (sz := s.heap.size)) htab _ hl
theorem Met_ofNHd {l : Launch} {y : MethodName} {cc : ByteArray} {nL mc ms : Nat} {ret : Option FieldType} {hh : List (Nat × Nat × Nat × Nat)} {rm : Room} {Y : CYs} {D : va_G} {As : List Value} {W0 : va_W} {Qc : Nat → Array Value → State → Outcome → State → Prop} {cD : ClassId}
    (hy : plainName y.cls = true) (hn : (lg_sl As).length ≤ nL)
    (body : ∀ p e s m args below meth c, Ctx p s m args y.cls D Y → c.code = cc → c.maxLocals = nL → meth.sig.returnType = ret → meth.locks = false → SW (va_A W0 s.heap.size) s s.heap → va_P D vwCl W0 s.heap → va_D (va_A W0 s.heap.size) W0 → va_K D vwCl (tysY Y ++ [(cD, .double)]) s → c.exceptionTable.toList = tableOf hh → ∀ ls, lv_has ls nL (lv_args 0 As) →
      W p l e rm s m args below meth c s.heap [] 0 0 (MQ below (Qc s.heap.size) args s mc ms (va_A W0 s.heap.size)) (F0 m 0 ls [])) (sz : Nat) :
    Met l y (Cond.codeWith y cc nL ret hh :: gW) rm (fun v U => PcN W0 Y D sz As v U ∧ va_K D vwCl (tysY Y ++ [(cD, .double)]) U) (Qc sz) mc ms (va_A W0 sz) := by
  refine va_MetW (cc := cc) (maxL := nL) (ret := ret) (hh := hh) hy rfl ?_
  intro p e s m args below meth c s₁ B hml hv
  obtain ⟨⟨rfl, hsz, hP, hK, hD0, hN, hSW⟩, hkd⟩ := hv
  have hts := atoms_spec (ws := Cond.codeWith y cc nL ret hh :: gW) B.pre
  have htab := vx_table (x := y) B (hts _ List.mem_cons_self)
  have hown : s.vm.findClass y.cls = some m.cls := findClass_of_methodNamed B.named
  subst hsz
  have hl := lv_entry As (n := nL) hn
  rw [lg_entry_eq]
  exact body p e s m _ below meth c ⟨B.exec, fun w h => hts w (List.mem_cons_of_mem _ h), hown, hK, hN⟩ B.bytes hml B.returns B.notSynchronized hSW hP (hD0.self (sz := s.heap.size)) hkd htab _ hl
section WX
variable {p : Program} {l : Launch} {e : Env} {R : Room} {s : State} {m : MethodId} {args : Array Value} {below : List Frame} {meth : Method} {c : Code} {H : Heap} {locs : List Loc} {cells slots : Nat} {Q : State → Prop}
variable {D : va_G} {Y : CYs} {E : Nat → Nat} {σ σ2 : Sta} {L : List Dsc} {own C : String} {cc bytes : ByteArray} {pc nL maxL n index : Nat} {ret rc : Option FieldType} {ls : Array Slot} {st rest As : List Value} {y : MethodName} {rm : Room} {A : Nat → Prop} {Rs : va_W}
/-- what is called throws; it is caught here -/
theorem n_VX {X : String} {q ci N hp : Nat} {T : u_T} {fs : List (Nat × Nat)} (hC : Ctx p s m args own D Y) (hb : c.code = cc) (hml : c.maxLocals = nL) (hls : ls.size = nL) (hSW : SW A s s.heap) (hP : va_P D vwCl (Rs ++ wd Y E σ 0 L) H) (hD : va_D A (Rs ++ wd Y E σ 0 L)) (hS : va_S A s.heap H locs) (hA : ∀ q, s.heap.size ≤ q → A q)
    (hM : MXT l y (Cond.code y bytes maxL ret :: gW) rm L Y D E (.ref (E q) :: As) σ X σ2) (cw : CallW R s args own C index y bytes maxL ret (Cond.code y bytes maxL ret :: gW) rm 1 6 n)
    (hq : L[q]? = some (0, ci, fs)) (hc : vwCl[ci]? = some (C, T, N)) (hn : As.length = n) (hst : st = As.reverse ++ .ref (E q) :: rest) (hcat : (rest.map fun v => v.category).sum ≤ 8) (hdg : decode cc pc = .ok (.invokevirtual index, 3)) (hf : cells + 1 ≤ R.cells ∧ slots + 6 ≤ R.slots)
    (pre : List ExceptionTableEntry) (x : ExceptionTableEntry) (suf : List ExceptionTableEntry) (hsplit : c.exceptionTable.toList = pre ++ x :: suf) (hpass : ∀ z ∈ pre, z.catchType ≠ 0 ∧ ∃ nm : String, Cond.classLink own z.catchType nm ∈ gW ∧ (X, nm) ∈ ncs) (hcov : covers x pc = true) (h0 : x.catchType ≠ 0) (hlink : Cond.classLink own x.catchType X ∈ gW) (hcast : Cond.castable X X ∈ nwx) (hhp : x.handlerPc = hp)
    (kk : ∀ (q9 : Nat) (H1 : Heap) (locs1 : List Loc), va_P D vwCl (Rs ++ wd Y E σ2 0 L) H1 → va_D A (Rs ++ wd Y E σ2 0 L) → va_S A s.heap H1 locs1 → W p l e R s m args below meth c H1 locs1 (cells + 1) (slots + 6) Q (F0 m hp ls [.ref q9])) : W p l e R s m args below meth c H locs cells slots Q (F0 m pc ls st) := by
  subst hst
  refine vx_callv (vx_runV (As := As) (rest := rest) ⟨hC.1, hb, hml, hC.2.2.1, hC.2.1⟩ (hM H.size) cw ⟨PcC_blind, va_recv hC.2.2.2.1 (tl_P hP) hc (wd_at hq), by rw [PcC_N]; exact tl_pre hC hSW hP hD hS hA⟩ rfl hn hls rfl (lv_room (ls := ls) hcat) hdg hf) hS (fun q _ h => tl_AF hD hS hA q h) (fun q h => tl_AF hD hS hA q h) (fun q _ h => tl_AF hD hS hA q h) (fun E' ce q9 u t H1 locs1 ht hvm hu hB hz hk hS1 hcell hcv hcl => ?_) (fun u t H1 locs1 ht hvm hw hB hz hk hS1 => hw.elim)
  subst hu
  obtain ⟨hE, hB⟩ := hB
  have hE : E' = X := hE
  subst hE
  subst hhp
  obtain ⟨hP1, hD1⟩ := tl_back hP hD hS hA ht hB hk
  refine vx_catch (name := E') (E := E') hC.2.2.1 pre x suf hsplit (fun z hz => Or.inr ?_) hcov h0 (hC.2.1 _ hlink) (va_Nw.use (nest_on (List.all_eq_true.mp nwx_nest _ hcast)) (hC.2.2.2.2.2.1 _ hcast)) hcell hcv hcl (kk q9 H1 locs1 hP1 hD1 hS1)
  obtain ⟨z1, nm, z2, z3⟩ := hpass z hz
  exact ⟨z1, nm, hC.2.1 _ z2, hC.2.2.2.2.2.2 _ z3⟩
end WX
theorem gi_Sh {own : String} {index : Nat} {y : MethodName} {b : Cond} (h1 : Cond.methodLink own index y ∈ gW) (h2 : Cond.static y ∈ gW) (h4 : Cond.initialized y.cls ∈ gW) (h5 : b ∈ gW) : GoodIn gW (va_wsS own index y (b :: gW)) := fun w hw => by
  have hg : ∀ w, w ∈ gW → w ∈ gW ∧ ((w.onTables && w.keeps) = true ∨ ∃ ty, w = .arrayClass ty) := fun w h => ⟨h, good_of_word (gW_good _ h)⟩
  unfold va_wsS at hw
  rcases List.mem_append.mp hw with h | h
  · simp only [List.mem_cons, List.not_mem_nil, or_false] at h
    rcases h with rfl | rfl | rfl
    · exact hg _ h1
    · exact hg _ h2
    · exact hg _ h4
  · exact gi_law h5 w h
theorem cw_L_7 {R : Room} {p : Program} {s : State} {m : MethodId} {args : Array Value} {D : va_G} {Y : CYs} {rm : Room} {mc ms : Nat} (hC : Ctx p s m args RL D Y) (hrc : rm.cells = mc) (hrs : rm.slots = ms) (hR : rm.frames + 1 ≤ R.frames ∧ 8 + (6 + 11) + rm.locals ≤ R.locals) : CallW R s args RL RX8 7 yX8_feed cX8_feed 6 (some .int) (Cond.code yX8_feed cX8_feed 6 (some .int) :: gW) rm mc ms 5 :=
  cwV 5 hC.2.1 (gi_V (gw_t (tb4 (List.mem_of_getElem? (i := 81) rfl)) rfl) (gw_t (tb4 (List.mem_of_getElem? (i := 82) rfl)) rfl) (gw_t (tb4 (List.mem_of_getElem? (i := 83) rfl)) rfl) (gw_t (tb1 (List.mem_of_getElem? (i := 1) rfl)) rfl) (gw_t (tb4 (List.mem_of_getElem? (i := 84) rfl)) rfl)) rfl hrc hrs ⟨rfl, by decide +kernel, by decide +kernel, by decide +kernel⟩ hR
theorem cw_L_15 {R : Room} {p : Program} {s : State} {m : MethodId} {args : Array Value} {D : va_G} {Y : CYs} {rm : Room} {mc ms : Nat} (hC : Ctx p s m args RL D Y) (hrc : rm.cells = mc) (hrs : rm.slots = ms) (hR : rm.frames + 1 ≤ R.frames ∧ 8 + (2 + 11) + rm.locals ≤ R.locals) : CallW R s args RL RX8 15 yX8_trim cX8_trim 2 (some .int) (Cond.code yX8_trim cX8_trim 2 (some .int) :: gW) rm mc ms 1 :=
  cwV 1 hC.2.1 (gi_V (gw_t (tb4 (List.mem_of_getElem? (i := 161) rfl)) rfl) (gw_t (tb4 (List.mem_of_getElem? (i := 162) rfl)) rfl) (gw_t (tb4 (List.mem_of_getElem? (i := 163) rfl)) rfl) (gw_t (tb1 (List.mem_of_getElem? (i := 1) rfl)) rfl) (gw_t (tb4 (List.mem_of_getElem? (i := 164) rfl)) rfl)) rfl hrc hrs ⟨rfl, by decide +kernel, by decide +kernel, by decide +kernel⟩ hR
theorem cw_L_21 {R : Room} {p : Program} {s : State} {m : MethodId} {args : Array Value} {D : va_G} {Y : CYs} {rm : Room} {mc ms : Nat} (hC : Ctx p s m args RL D Y) (hrc : rm.cells = mc) (hrs : rm.slots = ms) (hR : rm.frames + 1 ≤ R.frames ∧ 8 + (2 + 11) + rm.locals ≤ R.locals) : CallW R s args RL RX8 21 yX8_count cX8_count 2 (some .int) (Cond.code yX8_count cX8_count 2 (some .int) :: gW) rm mc ms 1 :=
  cwV 1 hC.2.1 (gi_V (gw_t (tb4 (List.mem_of_getElem? (i := 189) rfl)) rfl) (gw_t (tb4 (List.mem_of_getElem? (i := 190) rfl)) rfl) (gw_t (tb4 (List.mem_of_getElem? (i := 191) rfl)) rfl) (gw_t (tb1 (List.mem_of_getElem? (i := 1) rfl)) rfl) (gw_t (tb4 (List.mem_of_getElem? (i := 192) rfl)) rfl)) rfl hrc hrs ⟨rfl, by decide +kernel, by decide +kernel, by decide +kernel⟩ hR
theorem cw_L_26 {R : Room} {p : Program} {s : State} {m : MethodId} {args : Array Value} {D : va_G} {Y : CYs} {rm : Room} {mc ms : Nat} (hC : Ctx p s m args RL D Y) (hrc : rm.cells = mc) (hrs : rm.slots = ms) (hR : rm.frames + 1 ≤ R.frames ∧ 8 + (2 + 11) + rm.locals ≤ R.locals) : CallW R s args RL RX8 26 yX8_test cX8_test 2 (some .int) (Cond.code yX8_test cX8_test 2 (some .int) :: gW) rm mc ms 1 :=
  cwV 1 hC.2.1 (gi_V (gw_t (tb4 (List.mem_of_getElem? (i := 212) rfl)) rfl) (gw_t (tb4 (List.mem_of_getElem? (i := 213) rfl)) rfl) (gw_t (tb4 (List.mem_of_getElem? (i := 214) rfl)) rfl) (gw_t (tb1 (List.mem_of_getElem? (i := 1) rfl)) rfl) (gw_t (tb4 (List.mem_of_getElem? (i := 215) rfl)) rfl)) rfl hrc hrs ⟨rfl, by decide +kernel, by decide +kernel, by decide +kernel⟩ hR
theorem cw_L_29 {R : Room} {p : Program} {s : State} {m : MethodId} {args : Array Value} {D : va_G} {Y : CYs} {rm : Room} {mc ms : Nat} (hC : Ctx p s m args RL D Y) (hrc : rm.cells = mc) (hrs : rm.slots = ms) (hR : rm.frames + 1 ≤ R.frames ∧ 8 + (3 + 11) + rm.locals ≤ R.locals) : CallW R s args RL RX8 29 yX8_value cX8_value 3 (some .int) (Cond.code yX8_value cX8_value 3 (some .int) :: gW) rm mc ms 2 :=
  cwV 2 hC.2.1 (gi_V (gw_t (tb4 (List.mem_of_getElem? (i := 233) rfl)) rfl) (gw_t (tb4 (List.mem_of_getElem? (i := 234) rfl)) rfl) (gw_t (tb4 (List.mem_of_getElem? (i := 235) rfl)) rfl) (gw_t (tb1 (List.mem_of_getElem? (i := 1) rfl)) rfl) (gw_t (tb4 (List.mem_of_getElem? (i := 236) rfl)) rfl)) rfl hrc hrs ⟨rfl, by decide +kernel, by decide +kernel, by decide +kernel⟩ hR
theorem cw_L_33 {R : Room} {p : Program} {s : State} {m : MethodId} {args : Array Value} {D : va_G} {Y : CYs} {rm : Room} {mc ms : Nat} (hC : Ctx p s m args RL D Y) (hrc : rm.cells = mc) (hrs : rm.slots = ms) (hR : rm.frames + 1 ≤ R.frames ∧ 8 + (2 + 11) + rm.locals ≤ R.locals) : CallW R s args RL RX8 33 yX8_choices cX8_choices 2 (some .int) (Cond.code yX8_choices cX8_choices 2 (some .int) :: gW) rm mc ms 1 :=
  cwV 1 hC.2.1 (gi_V (gw_t (tb5 (List.mem_of_getElem? (i := 1) rfl)) rfl) (gw_t (tb5 (List.mem_of_getElem? (i := 2) rfl)) rfl) (gw_t (tb5 (List.mem_of_getElem? (i := 3) rfl)) rfl) (gw_t (tb1 (List.mem_of_getElem? (i := 1) rfl)) rfl) (gw_t (tb5 (List.mem_of_getElem? (i := 4) rfl)) rfl)) rfl hrc hrs ⟨rfl, by decide +kernel, by decide +kernel, by decide +kernel⟩ hR
theorem cw_L_36 {R : Room} {p : Program} {s : State} {m : MethodId} {args : Array Value} {D : va_G} {Y : CYs} {rm : Room} {mc ms : Nat} (hC : Ctx p s m args RL D Y) (hrc : rm.cells = mc) (hrs : rm.slots = ms) (hR : rm.frames + 1 ≤ R.frames ∧ 8 + (4 + 11) + rm.locals ≤ R.locals) : CallW R s args RL RX8 36 yX8_choice cX8_choice 4 (some .int) (Cond.code yX8_choice cX8_choice 4 (some .int) :: gW) rm mc ms 3 :=
  cwV 3 hC.2.1 (gi_V (gw_t (tb5 (List.mem_of_getElem? (i := 8) rfl)) rfl) (gw_t (tb5 (List.mem_of_getElem? (i := 9) rfl)) rfl) (gw_t (tb5 (List.mem_of_getElem? (i := 10) rfl)) rfl) (gw_t (tb1 (List.mem_of_getElem? (i := 1) rfl)) rfl) (gw_t (tb5 (List.mem_of_getElem? (i := 11) rfl)) rfl)) rfl hrc hrs ⟨rfl, by decide +kernel, by decide +kernel, by decide +kernel⟩ hR
theorem cw_L_40 {R : Room} {p : Program} {s : State} {m : MethodId} {args : Array Value} {D : va_G} {Y : CYs} {rm : Room} {mc ms : Nat} (hC : Ctx p s m args RL D Y) (hrc : rm.cells = mc) (hrs : rm.slots = ms) (hR : rm.frames + 1 ≤ R.frames ∧ 8 + (4 + 11) + rm.locals ≤ R.locals) : CallW R s args RL RX8 40 yX8_gain cX8_gain 4 (some .long) (Cond.code yX8_gain cX8_gain 4 (some .long) :: gW) rm mc ms 3 :=
  cwV 3 hC.2.1 (gi_V (gw_t (tb5 (List.mem_of_getElem? (i := 29) rfl)) rfl) (gw_t (tb5 (List.mem_of_getElem? (i := 30) rfl)) rfl) (gw_t (tb5 (List.mem_of_getElem? (i := 31) rfl)) rfl) (gw_t (tb1 (List.mem_of_getElem? (i := 1) rfl)) rfl) (gw_t (tb5 (List.mem_of_getElem? (i := 32) rfl)) rfl)) rfl hrc hrs ⟨rfl, by decide +kernel, by decide +kernel, by decide +kernel⟩ hR
theorem cw_L_44 {R : Room} {p : Program} {s : State} {m : MethodId} {args : Array Value} {D : va_G} {Y : CYs} {rm : Room} {mc ms : Nat} (hC : Ctx p s m args RL D Y) (hrc : rm.cells = mc) (hrs : rm.slots = ms) (hR : rm.frames + 1 ≤ R.frames ∧ 8 + (5 + 11) + rm.locals ≤ R.locals) : CallW R s args RL RX8 44 yX8_branch cX8_branch 5 (some .int) (Cond.code yX8_branch cX8_branch 5 (some .int) :: gW) rm mc ms 4 :=
  cwV 4 hC.2.1 (gi_V (gw_t (tb5 (List.mem_of_getElem? (i := 47) rfl)) rfl) (gw_t (tb5 (List.mem_of_getElem? (i := 48) rfl)) rfl) (gw_t (tb5 (List.mem_of_getElem? (i := 49) rfl)) rfl) (gw_t (tb1 (List.mem_of_getElem? (i := 1) rfl)) rfl) (gw_t (tb5 (List.mem_of_getElem? (i := 50) rfl)) rfl)) rfl hrc hrs ⟨rfl, by decide +kernel, by decide +kernel, by decide +kernel⟩ hR
theorem cw_L_48 {R : Room} {p : Program} {s : State} {m : MethodId} {args : Array Value} {D : va_G} {Y : CYs} {rm : Room} {mc ms : Nat} (hC : Ctx p s m args RL D Y) (hrc : rm.cells = mc) (hrs : rm.slots = ms) (hR : rm.frames + 1 ≤ R.frames ∧ 8 + (4 + 11) + rm.locals ≤ R.locals) : CallW R s args RL RX8 48 yX8_weigh cX8_weigh 4 (some .int) (Cond.code yX8_weigh cX8_weigh 4 (some .int) :: gW) rm mc ms 2 :=
  cwV 2 hC.2.1 (gi_V (gw_t (tb5 (List.mem_of_getElem? (i := 62) rfl)) rfl) (gw_t (tb5 (List.mem_of_getElem? (i := 63) rfl)) rfl) (gw_t (tb5 (List.mem_of_getElem? (i := 64) rfl)) rfl) (gw_t (tb1 (List.mem_of_getElem? (i := 1) rfl)) rfl) (gw_t (tb5 (List.mem_of_getElem? (i := 65) rfl)) rfl)) rfl hrc hrs ⟨rfl, by decide +kernel, by decide +kernel, by decide +kernel⟩ hR
theorem cw_L_51 {R : Room} {p : Program} {s : State} {m : MethodId} {args : Array Value} {D : va_G} {Y : CYs} {rm : Room} {mc ms : Nat} (hC : Ctx p s m args RL D Y) (hrc : rm.cells = mc) (hrs : rm.slots = ms) (hR : rm.frames + 1 ≤ R.frames ∧ 8 + (4 + 11) + rm.locals ≤ R.locals) : CallW R s args RL RX8 51 yX8_solve cX8_solve 4 (some .int) (Cond.code yX8_solve cX8_solve 4 (some .int) :: gW) rm mc ms 1 :=
  cwV 1 hC.2.1 (gi_V (gw_t (tb5 (List.mem_of_getElem? (i := 69) rfl)) rfl) (gw_t (tb5 (List.mem_of_getElem? (i := 70) rfl)) rfl) (gw_t (tb5 (List.mem_of_getElem? (i := 71) rfl)) rfl) (gw_t (tb1 (List.mem_of_getElem? (i := 1) rfl)) rfl) (gw_t (tb5 (List.mem_of_getElem? (i := 72) rfl)) rfl)) rfl hrc hrs ⟨rfl, by decide +kernel, by decide +kernel, by decide +kernel⟩ hR
theorem cw_L_54 {R : Room} {p : Program} {s : State} {m : MethodId} {args : Array Value} {D : va_G} {Y : CYs} {rm : Room} {mc ms : Nat} (hC : Ctx p s m args RL D Y) (hrc : rm.cells = mc) (hrs : rm.slots = ms) (hR : rm.frames + 1 ≤ R.frames ∧ 8 + (5 + 11) + rm.locals ≤ R.locals) : CallW R s args RL RX8 54 yX8_takes cX8_takes 5 (some .int) (Cond.code yX8_takes cX8_takes 5 (some .int) :: gW) rm mc ms 3 :=
  cwV 3 hC.2.1 (gi_V (gw_t (tb5 (List.mem_of_getElem? (i := 133) rfl)) rfl) (gw_t (tb5 (List.mem_of_getElem? (i := 134) rfl)) rfl) (gw_t (tb5 (List.mem_of_getElem? (i := 135) rfl)) rfl) (gw_t (tb1 (List.mem_of_getElem? (i := 1) rfl)) rfl) (gw_t (tb5 (List.mem_of_getElem? (i := 136) rfl)) rfl)) rfl hrc hrs ⟨rfl, by decide +kernel, by decide +kernel, by decide +kernel⟩ hR
theorem cw_L_57 {R : Room} {p : Program} {s : State} {m : MethodId} {args : Array Value} {D : va_G} {Y : CYs} {rm : Room} {mc ms : Nat} (hC : Ctx p s m args RL D Y) (hrc : rm.cells = mc) (hrs : rm.slots = ms) (hR : rm.frames + 1 ≤ R.frames ∧ 8 + (5 + 11) + rm.locals ≤ R.locals) : CallW R s args RL RX8 57 yX8_worth cX8_worth 5 (some .long) (Cond.code yX8_worth cX8_worth 5 (some .long) :: gW) rm mc ms 3 :=
  cwV 3 hC.2.1 (gi_V (gw_t (tb5 (List.mem_of_getElem? (i := 144) rfl)) rfl) (gw_t (tb5 (List.mem_of_getElem? (i := 145) rfl)) rfl) (gw_t (tb5 (List.mem_of_getElem? (i := 146) rfl)) rfl) (gw_t (tb1 (List.mem_of_getElem? (i := 1) rfl)) rfl) (gw_t (tb5 (List.mem_of_getElem? (i := 147) rfl)) rfl)) rfl hrc hrs ⟨rfl, by decide +kernel, by decide +kernel, by decide +kernel⟩ hR
theorem cw_L_60 {R : Room} {p : Program} {s : State} {m : MethodId} {args : Array Value} {D : va_G} {Y : CYs} {rm : Room} {mc ms : Nat} (hC : Ctx p s m args RL D Y) (hrc : rm.cells = mc) (hrs : rm.slots = ms) (hR : rm.frames + 1 ≤ R.frames ∧ 8 + (3 + 11) + rm.locals ≤ R.locals) : CallW R s args RL RX8 60 yX8_brings cX8_brings 3 (some .long) (Cond.code yX8_brings cX8_brings 3 (some .long) :: gW) rm mc ms 2 :=
  cwV 2 hC.2.1 (gi_V (gw_t (tb5 (List.mem_of_getElem? (i := 152) rfl)) rfl) (gw_t (tb5 (List.mem_of_getElem? (i := 153) rfl)) rfl) (gw_t (tb5 (List.mem_of_getElem? (i := 154) rfl)) rfl) (gw_t (tb1 (List.mem_of_getElem? (i := 1) rfl)) rfl) (gw_t (tb5 (List.mem_of_getElem? (i := 155) rfl)) rfl)) rfl hrc hrs ⟨rfl, by decide +kernel, by decide +kernel, by decide +kernel⟩ hR
theorem cw_L_64 {R : Room} {p : Program} {s : State} {m : MethodId} {args : Array Value} {D : va_G} {Y : CYs} {rm : Room} {mc ms : Nat} (hC : Ctx p s m args RL D Y) (hrc : rm.cells = mc) (hrs : rm.slots = ms) (hR : rm.frames + 1 ≤ R.frames ∧ 8 + (2 + 11) + rm.locals ≤ R.locals) : CallW R s args RL RX8 64 yX8_chance cX8_chance 2 (some .int) (Cond.code yX8_chance cX8_chance 2 (some .int) :: gW) rm mc ms 1 :=
  cwV 1 hC.2.1 (gi_V (gw_t (tb5 (List.mem_of_getElem? (i := 159) rfl)) rfl) (gw_t (tb5 (List.mem_of_getElem? (i := 160) rfl)) rfl) (gw_t (tb5 (List.mem_of_getElem? (i := 161) rfl)) rfl) (gw_t (tb1 (List.mem_of_getElem? (i := 1) rfl)) rfl) (gw_t (tb5 (List.mem_of_getElem? (i := 162) rfl)) rfl)) rfl hrc hrs ⟨rfl, by decide +kernel, by decide +kernel, by decide +kernel⟩ hR
theorem cw_L_67 {R : Room} {p : Program} {s : State} {m : MethodId} {args : Array Value} {D : va_G} {Y : CYs} {rm : Room} {mc ms : Nat} (hC : Ctx p s m args RL D Y) (hrc : rm.cells = mc) (hrs : rm.slots = ms) (hR : rm.frames + 1 ≤ R.frames ∧ 8 + (3 + 11) + rm.locals ≤ R.locals) : CallW R s args RL RX8 67 yX8_isWorthHaving cX8_isWorthHaving 3 (some .boolean) (Cond.code yX8_isWorthHaving cX8_isWorthHaving 3 (some .boolean) :: gW) rm mc ms 1 :=
  cwV 1 hC.2.1 (gi_V (gw_t (tb5 (List.mem_of_getElem? (i := 166) rfl)) rfl) (gw_t (tb5 (List.mem_of_getElem? (i := 167) rfl)) rfl) (gw_t (tb5 (List.mem_of_getElem? (i := 168) rfl)) rfl) (gw_t (tb1 (List.mem_of_getElem? (i := 1) rfl)) rfl) (gw_t (tb5 (List.mem_of_getElem? (i := 169) rfl)) rfl)) rfl hrc hrs ⟨rfl, by decide +kernel, by decide +kernel, by decide +kernel⟩ hR
theorem cw_L_71 {R : Room} {p : Program} {s : State} {m : MethodId} {args : Array Value} {D : va_G} {Y : CYs} {rm : Room} {mc ms : Nat} (hC : Ctx p s m args RL D Y) (hrc : rm.cells = mc) (hrs : rm.slots = ms) (hR : rm.frames + 1 ≤ R.frames ∧ 8 + (8 + 11) + rm.locals ≤ R.locals) : CallW R s args RL RX8 71 yX8_sweep cX8_sweep 8 (some .int) (Cond.code yX8_sweep cX8_sweep 8 (some .int) :: gW) rm mc ms 4 :=
  cwV 4 hC.2.1 (gi_V (gw_t (tb5 (List.mem_of_getElem? (i := 177) rfl)) rfl) (gw_t (tb5 (List.mem_of_getElem? (i := 178) rfl)) rfl) (gw_t (tb5 (List.mem_of_getElem? (i := 179) rfl)) rfl) (gw_t (tb1 (List.mem_of_getElem? (i := 1) rfl)) rfl) (gw_t (tb5 (List.mem_of_getElem? (i := 180) rfl)) rfl)) rfl hrc hrs ⟨rfl, by decide +kernel, by decide +kernel, by decide +kernel⟩ hR
theorem cw_L_75 {R : Room} {p : Program} {s : State} {m : MethodId} {args : Array Value} {D : va_G} {Y : CYs} {rm : Room} {mc ms : Nat} (hC : Ctx p s m args RL D Y) (hrc : rm.cells = mc) (hrs : rm.slots = ms) (hR : rm.frames + 1 ≤ R.frames ∧ 8 + (5 + 11) + rm.locals ≤ R.locals) : CallW R s args RL RX8 75 yX8_mix cX8_mix 5 (some .long) (Cond.code yX8_mix cX8_mix 5 (some .long) :: gW) rm mc ms 4 :=
  cwV 4 hC.2.1 (gi_V (gw_t (tb5 (List.mem_of_getElem? (i := 193) rfl)) rfl) (gw_t (tb5 (List.mem_of_getElem? (i := 194) rfl)) rfl) (gw_t (tb5 (List.mem_of_getElem? (i := 195) rfl)) rfl) (gw_t (tb1 (List.mem_of_getElem? (i := 1) rfl)) rfl) (gw_t (tb5 (List.mem_of_getElem? (i := 196) rfl)) rfl)) rfl hrc hrs ⟨rfl, by decide +kernel, by decide +kernel, by decide +kernel⟩ hR
theorem cw_L_79 {R : Room} {p : Program} {s : State} {m : MethodId} {args : Array Value} {D : va_G} {Y : CYs} {rm : Room} {mc ms : Nat} (hC : Ctx p s m args RL D Y) (hrc : rm.cells = mc) (hrs : rm.slots = ms) (hR : rm.frames + 1 ≤ R.frames ∧ 8 + (13 + 11) + rm.locals ≤ R.locals) : CallW R s args RL RX8 79 yX8_bestMix cX8_bestMix 13 (some .int) (Cond.code yX8_bestMix cX8_bestMix 13 (some .int) :: gW) rm mc ms 3 :=
  cwV 3 hC.2.1 (gi_V (gw_t (tb5 (List.mem_of_getElem? (i := 205) rfl)) rfl) (gw_t (tb5 (List.mem_of_getElem? (i := 206) rfl)) rfl) (gw_t (tb5 (List.mem_of_getElem? (i := 207) rfl)) rfl) (gw_t (tb1 (List.mem_of_getElem? (i := 1) rfl)) rfl) (gw_t (tb5 (List.mem_of_getElem? (i := 208) rfl)) rfl)) rfl hrc hrs ⟨rfl, by decide +kernel, by decide +kernel, by decide +kernel⟩ hR
theorem cw_L_83 {R : Room} {p : Program} {s : State} {m : MethodId} {args : Array Value} {D : va_G} {Y : CYs} {rm : Room} {mc ms : Nat} (hC : Ctx p s m args RL D Y) (hrc : rm.cells = mc) (hrs : rm.slots = ms) (hR : rm.frames + 1 ≤ R.frames ∧ 8 + (4 + 11) + rm.locals ≤ R.locals) : CallW R s args RL RX8 83 yX8_drop cX8_drop 4 (some .int) (Cond.code yX8_drop cX8_drop 4 (some .int) :: gW) rm mc ms 1 :=
  cwV 1 hC.2.1 (gi_V (gw_t (tb5 (List.mem_of_getElem? (i := 213) rfl)) rfl) (gw_t (tb5 (List.mem_of_getElem? (i := 214) rfl)) rfl) (gw_t (tb5 (List.mem_of_getElem? (i := 215) rfl)) rfl) (gw_t (tb1 (List.mem_of_getElem? (i := 1) rfl)) rfl) (gw_t (tb5 (List.mem_of_getElem? (i := 216) rfl)) rfl)) rfl hrc hrs ⟨rfl, by decide +kernel, by decide +kernel, by decide +kernel⟩ hR
theorem cw_L_86 {R : Room} {p : Program} {s : State} {m : MethodId} {args : Array Value} {D : va_G} {Y : CYs} {rm : Room} {mc ms : Nat} (hC : Ctx p s m args RL D Y) (hrc : rm.cells = mc) (hrs : rm.slots = ms) (hR : rm.frames + 1 ≤ R.frames ∧ 8 + (3 + 11) + rm.locals ≤ R.locals) : CallW R s args RL RX8 86 yX8_reach cX8_reach 3 (some .int) (Cond.code yX8_reach cX8_reach 3 (some .int) :: gW) rm mc ms 2 :=
  cwV 2 hC.2.1 (gi_V (gw_t (tb5 (List.mem_of_getElem? (i := 220) rfl)) rfl) (gw_t (tb5 (List.mem_of_getElem? (i := 221) rfl)) rfl) (gw_t (tb5 (List.mem_of_getElem? (i := 222) rfl)) rfl) (gw_t (tb1 (List.mem_of_getElem? (i := 1) rfl)) rfl) (gw_t (tb5 (List.mem_of_getElem? (i := 223) rfl)) rfl)) rfl hrc hrs ⟨rfl, by decide +kernel, by decide +kernel, by decide +kernel⟩ hR
theorem cw_L_90 {R : Room} {p : Program} {s : State} {m : MethodId} {args : Array Value} {D : va_G} {Y : CYs} {rm : Room} {mc ms : Nat} (hC : Ctx p s m args RL D Y) (hrc : rm.cells = mc) (hrs : rm.slots = ms) (hR : rm.frames + 1 ≤ R.frames ∧ 8 + (2 + 11) + rm.locals ≤ R.locals) : CallW R s args RL RX8 90 yX8_play cX8_play 2 (some .int) (Cond.code yX8_play cX8_play 2 (some .int) :: gW) rm mc ms 1 :=
  cwV 1 hC.2.1 (gi_V (gw_t (tb5 (List.mem_of_getElem? (i := 235) rfl)) rfl) (gw_t (tb5 (List.mem_of_getElem? (i := 236) rfl)) rfl) (gw_t (tb5 (List.mem_of_getElem? (i := 237) rfl)) rfl) (gw_t (tb1 (List.mem_of_getElem? (i := 1) rfl)) rfl) (gw_t (tb5 (List.mem_of_getElem? (i := 238) rfl)) rfl)) rfl hrc hrs ⟨rfl, by decide +kernel, by decide +kernel, by decide +kernel⟩ hR
theorem cw_L_93 {R : Room} {p : Program} {s : State} {m : MethodId} {args : Array Value} {D : va_G} {Y : CYs} {rm : Room} {mc ms : Nat} (hC : Ctx p s m args RL D Y) (hrc : rm.cells = mc) (hrs : rm.slots = ms) (hR : rm.frames + 1 ≤ R.frames ∧ 8 + (2 + 11) + rm.locals ≤ R.locals) : CallW R s args RL RX8 93 yX8_played cX8_played 2 (some .long) (Cond.code yX8_played cX8_played 2 (some .long) :: gW) rm mc ms 1 :=
  cwV 1 hC.2.1 (gi_V (gw_t (tb6 (List.mem_of_getElem? (i := 23) rfl)) rfl) (gw_t (tb6 (List.mem_of_getElem? (i := 24) rfl)) rfl) (gw_t (tb6 (List.mem_of_getElem? (i := 25) rfl)) rfl) (gw_t (tb1 (List.mem_of_getElem? (i := 1) rfl)) rfl) (gw_t (tb6 (List.mem_of_getElem? (i := 26) rfl)) rfl)) rfl hrc hrs ⟨rfl, by decide +kernel, by decide +kernel, by decide +kernel⟩ hR
theorem cw_L_97 {R : Room} {p : Program} {s : State} {m : MethodId} {args : Array Value} {D : va_G} {Y : CYs} {rm : Room} {mc ms : Nat} (hC : Ctx p s m args RL D Y) (hrc : rm.cells = mc) (hrs : rm.slots = ms) (hR : rm.frames + 1 ≤ R.frames ∧ 8 + (7 + 11) + rm.locals ≤ R.locals) : CallW R s args RL RX8 97 yX8_average cX8_average 7 (some .double) (Cond.code yX8_average cX8_average 7 (some .double) :: gW) rm mc ms 3 :=
  cwV 3 hC.2.1 (gi_V (gw_t (tb6 (List.mem_of_getElem? (i := 30) rfl)) rfl) (gw_t (tb6 (List.mem_of_getElem? (i := 31) rfl)) rfl) (gw_t (tb6 (List.mem_of_getElem? (i := 32) rfl)) rfl) (gw_t (tb1 (List.mem_of_getElem? (i := 1) rfl)) rfl) (gw_t (tb6 (List.mem_of_getElem? (i := 33) rfl)) rfl)) rfl hrc hrs ⟨rfl, by decide +kernel, by decide +kernel, by decide +kernel⟩ hR
abbrev rmL_feed : Room := { frames := 7, cells := 1, slots := 6, locals := 107 }
set_option maxHeartbeats 4000000 in
set_option maxRecDepth 100000 in
theorem wL_feed {l : Launch} {D : va_G} {Y : CYs} {E : Nat → Nat} {qo : Nat} {f f2 : Nat → Int64} {σ σ2 : Sta} {a1 : Int32} {a2 : Int32} {a3 : Int32} {a4 : Int32} {a5 : Int32} {k : Int32} (ht : l.stackTraces = false) {o : Int32 ⊕ String} (h : f_X8_feed a1 a2 a3 a4 a5 σ = some (o, σ2)) (ho : (∃ v : Int32, o = .inl v ∧ k = 0 ∧ f2 = vp_updL f 0 v.toInt64) ∨ (o = .inr eISE ∧ k = 1 ∧ f = f2)) (sz : Nat) :
    Met l yL_feed (Cond.codeWith yL_feed cL_feed 8 (some .int) [(0, 16, 19, 13)] :: gW) rmL_feed (PcN (loA Y qo f :: wd Y E σ 0 LC) Y D sz [.ref (E 0), .int a1, .int a2, .int a3, .int a4, .int a5, .ref qo]) (QNi (loA Y qo f :: wd Y E σ 0 LC) (loA Y qo f2 :: wd Y E σ2 0 LC) Y D sz k) 1 6 (va_A (loA Y qo f :: wd Y E σ 0 LC) sz) := by
  refine Met_ofNH (Qc := fun sz => QNi (loA Y qo f :: wd Y E σ 0 LC) (loA Y qo f2 :: wd Y E σ2 0 LC) Y D sz k) (by decide) (Nat.le_of_ble_eq_true rfl) (fun p e s m args below meth c hC hb hml hr hlk hSW hP hD htab ls hl => ?_) sz
  have hx := hC.1
  have hA : ∀ q : Nat, s.heap.size ≤ q → va_A (loA Y qo f :: wd Y E σ 0 LC) s.heap.size q := fun q h => Or.inr h
  have hS : va_S (va_A (loA Y qo f :: wd Y E σ 0 LC) s.heap.size) s.heap s.heap [] := va_S.rf
  have hl : lv_has ls 8 [(0, .ref (E 0)), (1, .int a1), (2, .int a2), (3, .int a3), (4, .int a4), (5, .int a5), (6, .ref qo)] := hl
  refine lv_aload hx hb dL_feed_0 (lv_at hl 6 rfl) ?_
  refine lv_iconst (v := 0) hx hb dL_feed_2 (by decide) ?_
  refine lv_aload_n hx hb dL_feed_3 rfl (lv_at hl 0 rfl) ?_
  refine lv_iload_n hx hb dL_feed_4 rfl (lv_at hl 1 rfl) ?_
  refine lv_iload_n hx hb dL_feed_5 rfl (lv_at hl 2 rfl) ?_
  refine lv_iload_n hx hb dL_feed_6 rfl (lv_at hl 3 rfl) ?_
  refine lv_iload hx hb dL_feed_7 (lv_at hl 4 rfl) ?_
  refine lv_iload hx hb dL_feed_9 (lv_at hl 5 rfl) ?_
  rcases ho with ⟨v, rfl, rfl, rfl⟩ | ⟨rfl, rfl, rfl⟩
  · refine n_VI (Rs := [loA Y qo f]) (As := [.int a1, .int a2, .int a3, .int a4, .int a5]) (rest := [.int 0, .ref qo]) hC hb hml hl.1 hSW hP hD hS hA (c_X8_feed ht h) (cw_L_7 hC rfl rfl ⟨(Nat.le_of_ble_eq_true rfl), (Nat.le_of_ble_eq_true rfl)⟩) lc_0 rfl rfl rfl (Nat.le_of_ble_eq_true rfl) dL_feed_11 ⟨(Nat.le_of_ble_eq_true rfl), (Nat.le_of_ble_eq_true rfl)⟩ (fun H locs hP hD hS => ?_)
    refine lv_i2l (v := v.toInt64) hx hb dL_feed_14 rfl ?_
    refine va_last hx hb hC.2.2.2.1 hP hD hS 0 1 rfl rfl vin0 dL_feed_15 (fun H locs hP hD hS => ?_)
    have hP : va_P D vwCl (loA Y qo (vp_updL f 0 v.toInt64) :: wd Y E σ2 0 LC) H := hP
    have hD : va_D (va_A (loA Y qo f :: wd Y E σ 0 LC) s.heap.size) (loA Y qo (vp_updL f 0 v.toInt64) :: wd Y E σ2 0 LC) := hD
    refine lv_goto (tgt := 23) hx hb dL_feed_16 (by decide) ?_
    refine lv_iconst (v := 0) hx hb dL_feed_23 (by decide) ?_
    refine W.widen (k := 1) (n := 6) (Nat.zero_le _) (Nat.zero_le _) ?_
    exact W.iret hx hb hr (fun t ht hW => ⟨⟨0, (), rfl, rfl, by rw [ht]; exact hP, va_K.moved hW.alike hC.2.2.2.1, hD⟩, hS.F ht⟩) hS.2.2 dL_feed_24 hlk
  · refine n_VX (Rs := [loA Y qo f]) (As := [.int a1, .int a2, .int a3, .int a4, .int a5]) (rest := [.int 0, .ref qo]) hC hb hml hl.1 hSW hP hD hS hA (c_X8_feed ht h) (cw_L_7 hC rfl rfl ⟨(Nat.le_of_ble_eq_true rfl), (Nat.le_of_ble_eq_true rfl)⟩) lc_0 rfl rfl rfl (Nat.le_of_ble_eq_true rfl) dL_feed_11 ⟨(Nat.le_of_ble_eq_true rfl), (Nat.le_of_ble_eq_true rfl)⟩ [] ({ startPc := 0, endPc := 16, handlerPc := 19, catchType := 13 }) [] htab (fun z hz => nomatch hz) (by decide) (by decide) (gw_t (tb4 (List.mem_of_getElem? (i := 80) rfl)) rfl) (by decide) rfl (fun q9 H locs hP hD hS => ?_)
    refine lv_astore (lv' := [(7, .ref q9), (0, .ref (E 0)), (1, .int a1), (2, .int a2), (3, .int a3), (4, .int a4), (5, .int a5), (6, .ref qo)]) hx hb dL_feed_19 hl (by decide) rfl (fun ls hl => ?_)
    refine lv_iconst (v := 1) hx hb dL_feed_21 (by decide) ?_
    exact W.iret hx hb hr (fun t ht hW => ⟨⟨1, (), rfl, rfl, by rw [ht]; exact hP, va_K.moved hW.alike hC.2.2.2.1, hD⟩, hS.F ht⟩) hS.2.2 dL_feed_22 hlk
theorem csL_feed {R : Room} {p : Program} {s : State} {m : MethodId} {args : Array Value} {D : va_G} {Y : CYs} (hC : Ctx p s m args RL D Y) (hR : rmL_feed.frames + 1 ≤ R.frames ∧ 8 + (8 + 11) + rmL_feed.locals ≤ R.locals) : vx_CSW R s args RL 105 yL_feed cL_feed 8 (some .int) [(0, 16, 19, 13)] (Cond.codeWith yL_feed cL_feed 8 (some .int) [(0, 16, 19, 13)] :: gW) rmL_feed 1 6 7 :=
  vx_cwSW 7 hC.2.1 (gi_Sh (gw_t (tb4 (List.mem_of_getElem? (i := 77) rfl)) rfl) (gw_t (tb4 (List.mem_of_getElem? (i := 78) rfl)) rfl) (gw_t (tb1 (List.mem_of_getElem? (i := 0) rfl)) rfl) (gw_t (tb4 (List.mem_of_getElem? (i := 79) rfl)) rfl)) rfl rfl rfl ⟨by decide +kernel, by decide +kernel, by decide +kernel⟩ hR

abbrev rmL_trim : Room := { frames := 8, cells := 1, slots := 6, locals := 126 }
set_option maxHeartbeats 4000000 in
set_option maxRecDepth 100000 in
theorem wL_trim {l : Launch} {D : va_G} {Y : CYs} {E : Nat → Nat} {qo : Nat} {f f2 : Nat → Int64} {σ σ2 : Sta} {a1 : Int32} {k : Int32} (ht : l.stackTraces = false) {o : Int32 ⊕ String} (h : f_X8_trim a1 σ = some (o, σ2)) (ho : (∃ v : Int32, o = .inl v ∧ k = 0 ∧ f2 = vp_updL f 0 v.toInt64) ∨ (o = .inr eIAE ∧ k = 1 ∧ f = f2)) (sz : Nat) :
    Met l yL_trim (Cond.codeWith yL_trim cL_trim 4 (some .int) [(0, 9, 12, 19)] :: gW) rmL_trim (PcN (loA Y qo f :: wd Y E σ 0 LC) Y D sz [.ref (E 0), .int a1, .ref qo]) (QNi (loA Y qo f :: wd Y E σ 0 LC) (loA Y qo f2 :: wd Y E σ2 0 LC) Y D sz k) 1 6 (va_A (loA Y qo f :: wd Y E σ 0 LC) sz) := by
  refine Met_ofNH (Qc := fun sz => QNi (loA Y qo f :: wd Y E σ 0 LC) (loA Y qo f2 :: wd Y E σ2 0 LC) Y D sz k) (by decide) (Nat.le_of_ble_eq_true rfl) (fun p e s m args below meth c hC hb hml hr hlk hSW hP hD htab ls hl => ?_) sz
  have hx := hC.1
  have hA : ∀ q : Nat, s.heap.size ≤ q → va_A (loA Y qo f :: wd Y E σ 0 LC) s.heap.size q := fun q h => Or.inr h
  have hS : va_S (va_A (loA Y qo f :: wd Y E σ 0 LC) s.heap.size) s.heap s.heap [] := va_S.rf
  have hl : lv_has ls 4 [(0, .ref (E 0)), (1, .int a1), (2, .ref qo)] := hl
  refine lv_aload_n hx hb dL_trim_0 rfl (lv_at hl 2 rfl) ?_
  refine lv_iconst (v := 0) hx hb dL_trim_1 (by decide) ?_
  refine lv_aload_n hx hb dL_trim_2 rfl (lv_at hl 0 rfl) ?_
  refine lv_iload_n hx hb dL_trim_3 rfl (lv_at hl 1 rfl) ?_
  rcases ho with ⟨v, rfl, rfl, rfl⟩ | ⟨rfl, rfl, rfl⟩
  · refine n_VI (Rs := [loA Y qo f]) (As := [.int a1]) (rest := [.int 0, .ref qo]) hC hb hml hl.1 hSW hP hD hS hA (c_X8_trim ht h) (cw_L_15 hC rfl rfl ⟨(Nat.le_of_ble_eq_true rfl), (Nat.le_of_ble_eq_true rfl)⟩) lc_0 rfl rfl rfl (Nat.le_of_ble_eq_true rfl) dL_trim_4 ⟨(Nat.le_of_ble_eq_true rfl), (Nat.le_of_ble_eq_true rfl)⟩ (fun H locs hP hD hS => ?_)
    refine lv_i2l (v := v.toInt64) hx hb dL_trim_7 rfl ?_
    refine va_last hx hb hC.2.2.2.1 hP hD hS 0 1 rfl rfl vin0 dL_trim_8 (fun H locs hP hD hS => ?_)
    have hP : va_P D vwCl (loA Y qo (vp_updL f 0 v.toInt64) :: wd Y E σ2 0 LC) H := hP
    have hD : va_D (va_A (loA Y qo f :: wd Y E σ 0 LC) s.heap.size) (loA Y qo (vp_updL f 0 v.toInt64) :: wd Y E σ2 0 LC) := hD
    refine lv_goto (tgt := 15) hx hb dL_trim_9 (by decide) ?_
    refine lv_iconst (v := 0) hx hb dL_trim_15 (by decide) ?_
    refine W.widen (k := 1) (n := 6) (Nat.zero_le _) (Nat.zero_le _) ?_
    exact W.iret hx hb hr (fun t ht hW => ⟨⟨0, (), rfl, rfl, by rw [ht]; exact hP, va_K.moved hW.alike hC.2.2.2.1, hD⟩, hS.F ht⟩) hS.2.2 dL_trim_16 hlk
  · refine n_VX (Rs := [loA Y qo f]) (As := [.int a1]) (rest := [.int 0, .ref qo]) hC hb hml hl.1 hSW hP hD hS hA (c_X8_trim ht h) (cw_L_15 hC rfl rfl ⟨(Nat.le_of_ble_eq_true rfl), (Nat.le_of_ble_eq_true rfl)⟩) lc_0 rfl rfl rfl (Nat.le_of_ble_eq_true rfl) dL_trim_4 ⟨(Nat.le_of_ble_eq_true rfl), (Nat.le_of_ble_eq_true rfl)⟩ [] ({ startPc := 0, endPc := 9, handlerPc := 12, catchType := 19 }) [] htab (fun z hz => nomatch hz) (by decide) (by decide) (gw_t (tb4 (List.mem_of_getElem? (i := 160) rfl)) rfl) (by decide) rfl (fun q9 H locs hP hD hS => ?_)
    refine lv_astore_n (lv' := [(3, .ref q9), (0, .ref (E 0)), (1, .int a1), (2, .ref qo)]) hx hb dL_trim_12 rfl hl (by decide) rfl (fun ls hl => ?_)
    refine lv_iconst (v := 1) hx hb dL_trim_13 (by decide) ?_
    exact W.iret hx hb hr (fun t ht hW => ⟨⟨1, (), rfl, rfl, by rw [ht]; exact hP, va_K.moved hW.alike hC.2.2.2.1, hD⟩, hS.F ht⟩) hS.2.2 dL_trim_14 hlk
theorem csL_trim {R : Room} {p : Program} {s : State} {m : MethodId} {args : Array Value} {D : va_G} {Y : CYs} (hC : Ctx p s m args RL D Y) (hR : rmL_trim.frames + 1 ≤ R.frames ∧ 8 + (4 + 11) + rmL_trim.locals ≤ R.locals) : vx_CSW R s args RL 115 yL_trim cL_trim 4 (some .int) [(0, 9, 12, 19)] (Cond.codeWith yL_trim cL_trim 4 (some .int) [(0, 9, 12, 19)] :: gW) rmL_trim 1 6 3 :=
  vx_cwSW 3 hC.2.1 (gi_Sh (gw_t (tb4 (List.mem_of_getElem? (i := 157) rfl)) rfl) (gw_t (tb4 (List.mem_of_getElem? (i := 158) rfl)) rfl) (gw_t (tb1 (List.mem_of_getElem? (i := 0) rfl)) rfl) (gw_t (tb4 (List.mem_of_getElem? (i := 159) rfl)) rfl)) rfl rfl rfl ⟨by decide +kernel, by decide +kernel, by decide +kernel⟩ hR

abbrev rmL_count : Room := { frames := 7, cells := 1, slots := 6, locals := 103 }
set_option maxHeartbeats 4000000 in
set_option maxRecDepth 100000 in
theorem wL_count {l : Launch} {D : va_G} {Y : CYs} {E : Nat → Nat} {qo : Nat} {f f2 : Nat → Int64} {σ σ2 : Sta} {a1 : Int32} {k : Int32} (ht : l.stackTraces = false) {o : Int32 ⊕ String} (h : f_X8_count a1 σ = some (o, σ2)) (ho : (∃ v : Int32, o = .inl v ∧ k = 0 ∧ f2 = vp_updL f 0 v.toInt64) ∨ (o = .inr eIOB ∧ k = 1 ∧ f = f2)) (sz : Nat) :
    Met l yL_count (Cond.codeWith yL_count cL_count 4 (some .int) [(0, 9, 12, 24)] :: gW) rmL_count (PcN (loA Y qo f :: wd Y E σ 0 LC) Y D sz [.ref (E 0), .int a1, .ref qo]) (QNi (loA Y qo f :: wd Y E σ 0 LC) (loA Y qo f2 :: wd Y E σ2 0 LC) Y D sz k) 1 6 (va_A (loA Y qo f :: wd Y E σ 0 LC) sz) := by
  refine Met_ofNH (Qc := fun sz => QNi (loA Y qo f :: wd Y E σ 0 LC) (loA Y qo f2 :: wd Y E σ2 0 LC) Y D sz k) (by decide) (Nat.le_of_ble_eq_true rfl) (fun p e s m args below meth c hC hb hml hr hlk hSW hP hD htab ls hl => ?_) sz
  have hx := hC.1
  have hA : ∀ q : Nat, s.heap.size ≤ q → va_A (loA Y qo f :: wd Y E σ 0 LC) s.heap.size q := fun q h => Or.inr h
  have hS : va_S (va_A (loA Y qo f :: wd Y E σ 0 LC) s.heap.size) s.heap s.heap [] := va_S.rf
  have hl : lv_has ls 4 [(0, .ref (E 0)), (1, .int a1), (2, .ref qo)] := hl
  refine lv_aload_n hx hb dL_count_0 rfl (lv_at hl 2 rfl) ?_
  refine lv_iconst (v := 0) hx hb dL_count_1 (by decide) ?_
  refine lv_aload_n hx hb dL_count_2 rfl (lv_at hl 0 rfl) ?_
  refine lv_iload_n hx hb dL_count_3 rfl (lv_at hl 1 rfl) ?_
  rcases ho with ⟨v, rfl, rfl, rfl⟩ | ⟨rfl, rfl, rfl⟩
  · refine n_VI (Rs := [loA Y qo f]) (As := [.int a1]) (rest := [.int 0, .ref qo]) hC hb hml hl.1 hSW hP hD hS hA (c_X8_count ht h) (cw_L_21 hC rfl rfl ⟨(Nat.le_of_ble_eq_true rfl), (Nat.le_of_ble_eq_true rfl)⟩) lc_0 rfl rfl rfl (Nat.le_of_ble_eq_true rfl) dL_count_4 ⟨(Nat.le_of_ble_eq_true rfl), (Nat.le_of_ble_eq_true rfl)⟩ (fun H locs hP hD hS => ?_)
    refine lv_i2l (v := v.toInt64) hx hb dL_count_7 rfl ?_
    refine va_last hx hb hC.2.2.2.1 hP hD hS 0 1 rfl rfl vin0 dL_count_8 (fun H locs hP hD hS => ?_)
    have hP : va_P D vwCl (loA Y qo (vp_updL f 0 v.toInt64) :: wd Y E σ2 0 LC) H := hP
    have hD : va_D (va_A (loA Y qo f :: wd Y E σ 0 LC) s.heap.size) (loA Y qo (vp_updL f 0 v.toInt64) :: wd Y E σ2 0 LC) := hD
    refine lv_goto (tgt := 15) hx hb dL_count_9 (by decide) ?_
    refine lv_iconst (v := 0) hx hb dL_count_15 (by decide) ?_
    refine W.widen (k := 1) (n := 6) (Nat.zero_le _) (Nat.zero_le _) ?_
    exact W.iret hx hb hr (fun t ht hW => ⟨⟨0, (), rfl, rfl, by rw [ht]; exact hP, va_K.moved hW.alike hC.2.2.2.1, hD⟩, hS.F ht⟩) hS.2.2 dL_count_16 hlk
  · refine n_VX (Rs := [loA Y qo f]) (As := [.int a1]) (rest := [.int 0, .ref qo]) hC hb hml hl.1 hSW hP hD hS hA (c_X8_count ht h) (cw_L_21 hC rfl rfl ⟨(Nat.le_of_ble_eq_true rfl), (Nat.le_of_ble_eq_true rfl)⟩) lc_0 rfl rfl rfl (Nat.le_of_ble_eq_true rfl) dL_count_4 ⟨(Nat.le_of_ble_eq_true rfl), (Nat.le_of_ble_eq_true rfl)⟩ [] ({ startPc := 0, endPc := 9, handlerPc := 12, catchType := 24 }) [] htab (fun z hz => nomatch hz) (by decide) (by decide) (gw_t (tb4 (List.mem_of_getElem? (i := 188) rfl)) rfl) (by decide) rfl (fun q9 H locs hP hD hS => ?_)
    refine lv_astore_n (lv' := [(3, .ref q9), (0, .ref (E 0)), (1, .int a1), (2, .ref qo)]) hx hb dL_count_12 rfl hl (by decide) rfl (fun ls hl => ?_)
    refine lv_iconst (v := 1) hx hb dL_count_13 (by decide) ?_
    exact W.iret hx hb hr (fun t ht hW => ⟨⟨1, (), rfl, rfl, by rw [ht]; exact hP, va_K.moved hW.alike hC.2.2.2.1, hD⟩, hS.F ht⟩) hS.2.2 dL_count_14 hlk
theorem csL_count {R : Room} {p : Program} {s : State} {m : MethodId} {args : Array Value} {D : va_G} {Y : CYs} (hC : Ctx p s m args RL D Y) (hR : rmL_count.frames + 1 ≤ R.frames ∧ 8 + (4 + 11) + rmL_count.locals ≤ R.locals) : vx_CSW R s args RL 127 yL_count cL_count 4 (some .int) [(0, 9, 12, 24)] (Cond.codeWith yL_count cL_count 4 (some .int) [(0, 9, 12, 24)] :: gW) rmL_count 1 6 3 :=
  vx_cwSW 3 hC.2.1 (gi_Sh (gw_t (tb4 (List.mem_of_getElem? (i := 185) rfl)) rfl) (gw_t (tb4 (List.mem_of_getElem? (i := 186) rfl)) rfl) (gw_t (tb1 (List.mem_of_getElem? (i := 0) rfl)) rfl) (gw_t (tb4 (List.mem_of_getElem? (i := 187) rfl)) rfl)) rfl rfl rfl ⟨by decide +kernel, by decide +kernel, by decide +kernel⟩ hR

abbrev rmL_test : Room := { frames := 106, cells := 1, slots := 6, locals := 4134 }
set_option maxHeartbeats 4000000 in
set_option maxRecDepth 100000 in
theorem wL_test {l : Launch} {D : va_G} {Y : CYs} {E : Nat → Nat} {qo : Nat} {f f2 : Nat → Int64} {σ σ2 : Sta} {a1 : Int32} {k : Int32} (ht : l.stackTraces = false) {o : Int32 ⊕ String} (h : f_X8_test a1 σ = some (o, σ2)) (ho : (∃ v : Int32, o = .inl v ∧ k = 0 ∧ f2 = vp_updL f 0 v.toInt64) ∨ (o = .inr eIOB ∧ k = 1 ∧ f = f2)) (sz : Nat) :
    Met l yL_test (Cond.codeWith yL_test cL_test 4 (some .int) [(0, 9, 12, 24)] :: gW) rmL_test (PcN (loA Y qo f :: wd Y E σ 0 LC) Y D sz [.ref (E 0), .int a1, .ref qo]) (QNi (loA Y qo f :: wd Y E σ 0 LC) (loA Y qo f2 :: wd Y E σ2 0 LC) Y D sz k) 1 6 (va_A (loA Y qo f :: wd Y E σ 0 LC) sz) := by
  refine Met_ofNH (Qc := fun sz => QNi (loA Y qo f :: wd Y E σ 0 LC) (loA Y qo f2 :: wd Y E σ2 0 LC) Y D sz k) (by decide) (Nat.le_of_ble_eq_true rfl) (fun p e s m args below meth c hC hb hml hr hlk hSW hP hD htab ls hl => ?_) sz
  have hx := hC.1
  have hA : ∀ q : Nat, s.heap.size ≤ q → va_A (loA Y qo f :: wd Y E σ 0 LC) s.heap.size q := fun q h => Or.inr h
  have hS : va_S (va_A (loA Y qo f :: wd Y E σ 0 LC) s.heap.size) s.heap s.heap [] := va_S.rf
  have hl : lv_has ls 4 [(0, .ref (E 0)), (1, .int a1), (2, .ref qo)] := hl
  refine lv_aload_n hx hb dL_test_0 rfl (lv_at hl 2 rfl) ?_
  refine lv_iconst (v := 0) hx hb dL_test_1 (by decide) ?_
  refine lv_aload_n hx hb dL_test_2 rfl (lv_at hl 0 rfl) ?_
  refine lv_iload_n hx hb dL_test_3 rfl (lv_at hl 1 rfl) ?_
  rcases ho with ⟨v, rfl, rfl, rfl⟩ | ⟨rfl, rfl, rfl⟩
  · refine n_VI (Rs := [loA Y qo f]) (As := [.int a1]) (rest := [.int 0, .ref qo]) hC hb hml hl.1 hSW hP hD hS hA (c_X8_test ht h) (cw_L_26 hC rfl rfl ⟨(Nat.le_of_ble_eq_true rfl), (Nat.le_of_ble_eq_true rfl)⟩) lc_0 rfl rfl rfl (Nat.le_of_ble_eq_true rfl) dL_test_4 ⟨(Nat.le_of_ble_eq_true rfl), (Nat.le_of_ble_eq_true rfl)⟩ (fun H locs hP hD hS => ?_)
    refine lv_i2l (v := v.toInt64) hx hb dL_test_7 rfl ?_
    refine va_last hx hb hC.2.2.2.1 hP hD hS 0 1 rfl rfl vin0 dL_test_8 (fun H locs hP hD hS => ?_)
    have hP : va_P D vwCl (loA Y qo (vp_updL f 0 v.toInt64) :: wd Y E σ2 0 LC) H := hP
    have hD : va_D (va_A (loA Y qo f :: wd Y E σ 0 LC) s.heap.size) (loA Y qo (vp_updL f 0 v.toInt64) :: wd Y E σ2 0 LC) := hD
    refine lv_goto (tgt := 15) hx hb dL_test_9 (by decide) ?_
    refine lv_iconst (v := 0) hx hb dL_test_15 (by decide) ?_
    refine W.widen (k := 1) (n := 6) (Nat.zero_le _) (Nat.zero_le _) ?_
    exact W.iret hx hb hr (fun t ht hW => ⟨⟨0, (), rfl, rfl, by rw [ht]; exact hP, va_K.moved hW.alike hC.2.2.2.1, hD⟩, hS.F ht⟩) hS.2.2 dL_test_16 hlk
  · refine n_VX (Rs := [loA Y qo f]) (As := [.int a1]) (rest := [.int 0, .ref qo]) hC hb hml hl.1 hSW hP hD hS hA (c_X8_test ht h) (cw_L_26 hC rfl rfl ⟨(Nat.le_of_ble_eq_true rfl), (Nat.le_of_ble_eq_true rfl)⟩) lc_0 rfl rfl rfl (Nat.le_of_ble_eq_true rfl) dL_test_4 ⟨(Nat.le_of_ble_eq_true rfl), (Nat.le_of_ble_eq_true rfl)⟩ [] ({ startPc := 0, endPc := 9, handlerPc := 12, catchType := 24 }) [] htab (fun z hz => nomatch hz) (by decide) (by decide) (gw_t (tb4 (List.mem_of_getElem? (i := 188) rfl)) rfl) (by decide) rfl (fun q9 H locs hP hD hS => ?_)
    refine lv_astore_n (lv' := [(3, .ref q9), (0, .ref (E 0)), (1, .int a1), (2, .ref qo)]) hx hb dL_test_12 rfl hl (by decide) rfl (fun ls hl => ?_)
    refine lv_iconst (v := 1) hx hb dL_test_13 (by decide) ?_
    exact W.iret hx hb hr (fun t ht hW => ⟨⟨1, (), rfl, rfl, by rw [ht]; exact hP, va_K.moved hW.alike hC.2.2.2.1, hD⟩, hS.F ht⟩) hS.2.2 dL_test_14 hlk
theorem csL_test {R : Room} {p : Program} {s : State} {m : MethodId} {args : Array Value} {D : va_G} {Y : CYs} (hC : Ctx p s m args RL D Y) (hR : rmL_test.frames + 1 ≤ R.frames ∧ 8 + (4 + 11) + rmL_test.locals ≤ R.locals) : vx_CSW R s args RL 130 yL_test cL_test 4 (some .int) [(0, 9, 12, 24)] (Cond.codeWith yL_test cL_test 4 (some .int) [(0, 9, 12, 24)] :: gW) rmL_test 1 6 3 :=
  vx_cwSW 3 hC.2.1 (gi_Sh (gw_t (tb4 (List.mem_of_getElem? (i := 209) rfl)) rfl) (gw_t (tb4 (List.mem_of_getElem? (i := 210) rfl)) rfl) (gw_t (tb1 (List.mem_of_getElem? (i := 0) rfl)) rfl) (gw_t (tb4 (List.mem_of_getElem? (i := 211) rfl)) rfl)) rfl rfl rfl ⟨by decide +kernel, by decide +kernel, by decide +kernel⟩ hR

abbrev rmL_value : Room := { frames := 9, cells := 1, slots := 6, locals := 147 }
set_option maxHeartbeats 4000000 in
set_option maxRecDepth 100000 in
theorem wL_value {l : Launch} {D : va_G} {Y : CYs} {E : Nat → Nat} {qo : Nat} {f f2 : Nat → Int64} {σ σ2 : Sta} {a1 : Int32} {a2 : Int32} {k : Int32} (ht : l.stackTraces = false) {o : Int32 ⊕ String} (h : f_X8_value a1 a2 σ = some (o, σ2)) (ho : (∃ v : Int32, o = .inl v ∧ k = 0 ∧ f2 = vp_updL f 0 v.toInt64) ∨ (o = .inr eIOB ∧ k = 1 ∧ f = f2)) (sz : Nat) :
    Met l yL_value (Cond.codeWith yL_value cL_value 5 (some .int) [(0, 10, 13, 24)] :: gW) rmL_value (PcN (loA Y qo f :: wd Y E σ 0 LC) Y D sz [.ref (E 0), .int a1, .int a2, .ref qo]) (QNi (loA Y qo f :: wd Y E σ 0 LC) (loA Y qo f2 :: wd Y E σ2 0 LC) Y D sz k) 1 6 (va_A (loA Y qo f :: wd Y E σ 0 LC) sz) := by
  refine Met_ofNH (Qc := fun sz => QNi (loA Y qo f :: wd Y E σ 0 LC) (loA Y qo f2 :: wd Y E σ2 0 LC) Y D sz k) (by decide) (Nat.le_of_ble_eq_true rfl) (fun p e s m args below meth c hC hb hml hr hlk hSW hP hD htab ls hl => ?_) sz
  have hx := hC.1
  have hA : ∀ q : Nat, s.heap.size ≤ q → va_A (loA Y qo f :: wd Y E σ 0 LC) s.heap.size q := fun q h => Or.inr h
  have hS : va_S (va_A (loA Y qo f :: wd Y E σ 0 LC) s.heap.size) s.heap s.heap [] := va_S.rf
  have hl : lv_has ls 5 [(0, .ref (E 0)), (1, .int a1), (2, .int a2), (3, .ref qo)] := hl
  refine lv_aload_n hx hb dL_value_0 rfl (lv_at hl 3 rfl) ?_
  refine lv_iconst (v := 0) hx hb dL_value_1 (by decide) ?_
  refine lv_aload_n hx hb dL_value_2 rfl (lv_at hl 0 rfl) ?_
  refine lv_iload_n hx hb dL_value_3 rfl (lv_at hl 1 rfl) ?_
  refine lv_iload_n hx hb dL_value_4 rfl (lv_at hl 2 rfl) ?_
  rcases ho with ⟨v, rfl, rfl, rfl⟩ | ⟨rfl, rfl, rfl⟩
  · refine n_VI (Rs := [loA Y qo f]) (As := [.int a1, .int a2]) (rest := [.int 0, .ref qo]) hC hb hml hl.1 hSW hP hD hS hA (c_X8_value ht h) (cw_L_29 hC rfl rfl ⟨(Nat.le_of_ble_eq_true rfl), (Nat.le_of_ble_eq_true rfl)⟩) lc_0 rfl rfl rfl (Nat.le_of_ble_eq_true rfl) dL_value_5 ⟨(Nat.le_of_ble_eq_true rfl), (Nat.le_of_ble_eq_true rfl)⟩ (fun H locs hP hD hS => ?_)
    refine lv_i2l (v := v.toInt64) hx hb dL_value_8 rfl ?_
    refine va_last hx hb hC.2.2.2.1 hP hD hS 0 1 rfl rfl vin0 dL_value_9 (fun H locs hP hD hS => ?_)
    have hP : va_P D vwCl (loA Y qo (vp_updL f 0 v.toInt64) :: wd Y E σ2 0 LC) H := hP
    have hD : va_D (va_A (loA Y qo f :: wd Y E σ 0 LC) s.heap.size) (loA Y qo (vp_updL f 0 v.toInt64) :: wd Y E σ2 0 LC) := hD
    refine lv_goto (tgt := 17) hx hb dL_value_10 (by decide) ?_
    refine lv_iconst (v := 0) hx hb dL_value_17 (by decide) ?_
    refine W.widen (k := 1) (n := 6) (Nat.zero_le _) (Nat.zero_le _) ?_
    exact W.iret hx hb hr (fun t ht hW => ⟨⟨0, (), rfl, rfl, by rw [ht]; exact hP, va_K.moved hW.alike hC.2.2.2.1, hD⟩, hS.F ht⟩) hS.2.2 dL_value_18 hlk
  · refine n_VX (Rs := [loA Y qo f]) (As := [.int a1, .int a2]) (rest := [.int 0, .ref qo]) hC hb hml hl.1 hSW hP hD hS hA (c_X8_value ht h) (cw_L_29 hC rfl rfl ⟨(Nat.le_of_ble_eq_true rfl), (Nat.le_of_ble_eq_true rfl)⟩) lc_0 rfl rfl rfl (Nat.le_of_ble_eq_true rfl) dL_value_5 ⟨(Nat.le_of_ble_eq_true rfl), (Nat.le_of_ble_eq_true rfl)⟩ [] ({ startPc := 0, endPc := 10, handlerPc := 13, catchType := 24 }) [] htab (fun z hz => nomatch hz) (by decide) (by decide) (gw_t (tb4 (List.mem_of_getElem? (i := 188) rfl)) rfl) (by decide) rfl (fun q9 H locs hP hD hS => ?_)
    refine lv_astore (lv' := [(4, .ref q9), (0, .ref (E 0)), (1, .int a1), (2, .int a2), (3, .ref qo)]) hx hb dL_value_13 hl (by decide) rfl (fun ls hl => ?_)
    refine lv_iconst (v := 1) hx hb dL_value_15 (by decide) ?_
    exact W.iret hx hb hr (fun t ht hW => ⟨⟨1, (), rfl, rfl, by rw [ht]; exact hP, va_K.moved hW.alike hC.2.2.2.1, hD⟩, hS.F ht⟩) hS.2.2 dL_value_16 hlk
theorem csL_value {R : Room} {p : Program} {s : State} {m : MethodId} {args : Array Value} {D : va_G} {Y : CYs} (hC : Ctx p s m args RL D Y) (hR : rmL_value.frames + 1 ≤ R.frames ∧ 8 + (5 + 11) + rmL_value.locals ≤ R.locals) : vx_CSW R s args RL 138 yL_value cL_value 5 (some .int) [(0, 10, 13, 24)] (Cond.codeWith yL_value cL_value 5 (some .int) [(0, 10, 13, 24)] :: gW) rmL_value 1 6 4 :=
  vx_cwSW 4 hC.2.1 (gi_Sh (gw_t (tb4 (List.mem_of_getElem? (i := 230) rfl)) rfl) (gw_t (tb4 (List.mem_of_getElem? (i := 231) rfl)) rfl) (gw_t (tb1 (List.mem_of_getElem? (i := 0) rfl)) rfl) (gw_t (tb4 (List.mem_of_getElem? (i := 232) rfl)) rfl)) rfl rfl rfl ⟨by decide +kernel, by decide +kernel, by decide +kernel⟩ hR

abbrev rmL_choices : Room := { frames := 9, cells := 1, slots := 6, locals := 146 }
set_option maxHeartbeats 4000000 in
set_option maxRecDepth 100000 in
theorem wL_choices {l : Launch} {D : va_G} {Y : CYs} {E : Nat → Nat} {qo : Nat} {f f2 : Nat → Int64} {σ σ2 : Sta} {a1 : Int32} {k : Int32} (ht : l.stackTraces = false) {o : Int32 ⊕ String} (h : f_X8_choices a1 σ = some (o, σ2)) (ho : (∃ v : Int32, o = .inl v ∧ k = 0 ∧ f2 = vp_updL f 0 v.toInt64) ∨ (o = .inr eIOB ∧ k = 1 ∧ f = f2)) (sz : Nat) :
    Met l yL_choices (Cond.codeWith yL_choices cL_choices 4 (some .int) [(0, 9, 12, 24)] :: gW) rmL_choices (PcN (loA Y qo f :: wd Y E σ 0 LC) Y D sz [.ref (E 0), .int a1, .ref qo]) (QNi (loA Y qo f :: wd Y E σ 0 LC) (loA Y qo f2 :: wd Y E σ2 0 LC) Y D sz k) 1 6 (va_A (loA Y qo f :: wd Y E σ 0 LC) sz) := by
  refine Met_ofNH (Qc := fun sz => QNi (loA Y qo f :: wd Y E σ 0 LC) (loA Y qo f2 :: wd Y E σ2 0 LC) Y D sz k) (by decide) (Nat.le_of_ble_eq_true rfl) (fun p e s m args below meth c hC hb hml hr hlk hSW hP hD htab ls hl => ?_) sz
  have hx := hC.1
  have hA : ∀ q : Nat, s.heap.size ≤ q → va_A (loA Y qo f :: wd Y E σ 0 LC) s.heap.size q := fun q h => Or.inr h
  have hS : va_S (va_A (loA Y qo f :: wd Y E σ 0 LC) s.heap.size) s.heap s.heap [] := va_S.rf
  have hl : lv_has ls 4 [(0, .ref (E 0)), (1, .int a1), (2, .ref qo)] := hl
  refine lv_aload_n hx hb dL_choices_0 rfl (lv_at hl 2 rfl) ?_
  refine lv_iconst (v := 0) hx hb dL_choices_1 (by decide) ?_
  refine lv_aload_n hx hb dL_choices_2 rfl (lv_at hl 0 rfl) ?_
  refine lv_iload_n hx hb dL_choices_3 rfl (lv_at hl 1 rfl) ?_
  rcases ho with ⟨v, rfl, rfl, rfl⟩ | ⟨rfl, rfl, rfl⟩
  · refine n_VI (Rs := [loA Y qo f]) (As := [.int a1]) (rest := [.int 0, .ref qo]) hC hb hml hl.1 hSW hP hD hS hA (c_X8_choices ht h) (cw_L_33 hC rfl rfl ⟨(Nat.le_of_ble_eq_true rfl), (Nat.le_of_ble_eq_true rfl)⟩) lc_0 rfl rfl rfl (Nat.le_of_ble_eq_true rfl) dL_choices_4 ⟨(Nat.le_of_ble_eq_true rfl), (Nat.le_of_ble_eq_true rfl)⟩ (fun H locs hP hD hS => ?_)
    refine lv_i2l (v := v.toInt64) hx hb dL_choices_7 rfl ?_
    refine va_last hx hb hC.2.2.2.1 hP hD hS 0 1 rfl rfl vin0 dL_choices_8 (fun H locs hP hD hS => ?_)
    have hP : va_P D vwCl (loA Y qo (vp_updL f 0 v.toInt64) :: wd Y E σ2 0 LC) H := hP
    have hD : va_D (va_A (loA Y qo f :: wd Y E σ 0 LC) s.heap.size) (loA Y qo (vp_updL f 0 v.toInt64) :: wd Y E σ2 0 LC) := hD
    refine lv_goto (tgt := 15) hx hb dL_choices_9 (by decide) ?_
    refine lv_iconst (v := 0) hx hb dL_choices_15 (by decide) ?_
    refine W.widen (k := 1) (n := 6) (Nat.zero_le _) (Nat.zero_le _) ?_
    exact W.iret hx hb hr (fun t ht hW => ⟨⟨0, (), rfl, rfl, by rw [ht]; exact hP, va_K.moved hW.alike hC.2.2.2.1, hD⟩, hS.F ht⟩) hS.2.2 dL_choices_16 hlk
  · refine n_VX (Rs := [loA Y qo f]) (As := [.int a1]) (rest := [.int 0, .ref qo]) hC hb hml hl.1 hSW hP hD hS hA (c_X8_choices ht h) (cw_L_33 hC rfl rfl ⟨(Nat.le_of_ble_eq_true rfl), (Nat.le_of_ble_eq_true rfl)⟩) lc_0 rfl rfl rfl (Nat.le_of_ble_eq_true rfl) dL_choices_4 ⟨(Nat.le_of_ble_eq_true rfl), (Nat.le_of_ble_eq_true rfl)⟩ [] ({ startPc := 0, endPc := 9, handlerPc := 12, catchType := 24 }) [] htab (fun z hz => nomatch hz) (by decide) (by decide) (gw_t (tb4 (List.mem_of_getElem? (i := 188) rfl)) rfl) (by decide) rfl (fun q9 H locs hP hD hS => ?_)
    refine lv_astore_n (lv' := [(3, .ref q9), (0, .ref (E 0)), (1, .int a1), (2, .ref qo)]) hx hb dL_choices_12 rfl hl (by decide) rfl (fun ls hl => ?_)
    refine lv_iconst (v := 1) hx hb dL_choices_13 (by decide) ?_
    exact W.iret hx hb hr (fun t ht hW => ⟨⟨1, (), rfl, rfl, by rw [ht]; exact hP, va_K.moved hW.alike hC.2.2.2.1, hD⟩, hS.F ht⟩) hS.2.2 dL_choices_14 hlk
theorem csL_choices {R : Room} {p : Program} {s : State} {m : MethodId} {args : Array Value} {D : va_G} {Y : CYs} (hC : Ctx p s m args RL D Y) (hR : rmL_choices.frames + 1 ≤ R.frames ∧ 8 + (4 + 11) + rmL_choices.locals ≤ R.locals) : vx_CSW R s args RL 142 yL_choices cL_choices 4 (some .int) [(0, 9, 12, 24)] (Cond.codeWith yL_choices cL_choices 4 (some .int) [(0, 9, 12, 24)] :: gW) rmL_choices 1 6 3 :=
  vx_cwSW 3 hC.2.1 (gi_Sh (gw_t (tb4 (List.mem_of_getElem? (i := 238) rfl)) rfl) (gw_t (tb4 (List.mem_of_getElem? (i := 239) rfl)) rfl) (gw_t (tb1 (List.mem_of_getElem? (i := 0) rfl)) rfl) (gw_t (tb5 (List.mem_of_getElem? (i := 0) rfl)) rfl)) rfl rfl rfl ⟨by decide +kernel, by decide +kernel, by decide +kernel⟩ hR

abbrev rmL_choice : Room := { frames := 10, cells := 1, slots := 6, locals := 170 }
set_option maxHeartbeats 4000000 in
set_option maxRecDepth 100000 in
theorem wL_choice {l : Launch} {D : va_G} {Y : CYs} {E : Nat → Nat} {qo : Nat} {f f2 : Nat → Int64} {σ σ2 : Sta} {a1 : Int32} {a2 : Int32} {a3 : Int32} {k : Int32} (ht : l.stackTraces = false) {o : Int32 ⊕ String} (h : f_X8_choice a1 a2 a3 σ = some (o, σ2)) (ho : (∃ v : Int32, o = .inl v ∧ k = 0 ∧ f2 = vp_updL f 0 v.toInt64) ∨ (o = .inr eIOB ∧ k = 1 ∧ f = f2)) (sz : Nat) :
    Met l yL_choice (Cond.codeWith yL_choice cL_choice 6 (some .int) [(0, 12, 15, 24)] :: gW) rmL_choice (PcN (loA Y qo f :: wd Y E σ 0 LC) Y D sz [.ref (E 0), .int a1, .int a2, .int a3, .ref qo]) (QNi (loA Y qo f :: wd Y E σ 0 LC) (loA Y qo f2 :: wd Y E σ2 0 LC) Y D sz k) 1 6 (va_A (loA Y qo f :: wd Y E σ 0 LC) sz) := by
  refine Met_ofNH (Qc := fun sz => QNi (loA Y qo f :: wd Y E σ 0 LC) (loA Y qo f2 :: wd Y E σ2 0 LC) Y D sz k) (by decide) (Nat.le_of_ble_eq_true rfl) (fun p e s m args below meth c hC hb hml hr hlk hSW hP hD htab ls hl => ?_) sz
  have hx := hC.1
  have hA : ∀ q : Nat, s.heap.size ≤ q → va_A (loA Y qo f :: wd Y E σ 0 LC) s.heap.size q := fun q h => Or.inr h
  have hS : va_S (va_A (loA Y qo f :: wd Y E σ 0 LC) s.heap.size) s.heap s.heap [] := va_S.rf
  have hl : lv_has ls 6 [(0, .ref (E 0)), (1, .int a1), (2, .int a2), (3, .int a3), (4, .ref qo)] := hl
  refine lv_aload hx hb dL_choice_0 (lv_at hl 4 rfl) ?_
  refine lv_iconst (v := 0) hx hb dL_choice_2 (by decide) ?_
  refine lv_aload_n hx hb dL_choice_3 rfl (lv_at hl 0 rfl) ?_
  refine lv_iload_n hx hb dL_choice_4 rfl (lv_at hl 1 rfl) ?_
  refine lv_iload_n hx hb dL_choice_5 rfl (lv_at hl 2 rfl) ?_
  refine lv_iload_n hx hb dL_choice_6 rfl (lv_at hl 3 rfl) ?_
  rcases ho with ⟨v, rfl, rfl, rfl⟩ | ⟨rfl, rfl, rfl⟩
  · refine n_VI (Rs := [loA Y qo f]) (As := [.int a1, .int a2, .int a3]) (rest := [.int 0, .ref qo]) hC hb hml hl.1 hSW hP hD hS hA (c_X8_choice ht h) (cw_L_36 hC rfl rfl ⟨(Nat.le_of_ble_eq_true rfl), (Nat.le_of_ble_eq_true rfl)⟩) lc_0 rfl rfl rfl (Nat.le_of_ble_eq_true rfl) dL_choice_7 ⟨(Nat.le_of_ble_eq_true rfl), (Nat.le_of_ble_eq_true rfl)⟩ (fun H locs hP hD hS => ?_)
    refine lv_i2l (v := v.toInt64) hx hb dL_choice_10 rfl ?_
    refine va_last hx hb hC.2.2.2.1 hP hD hS 0 1 rfl rfl vin0 dL_choice_11 (fun H locs hP hD hS => ?_)
    have hP : va_P D vwCl (loA Y qo (vp_updL f 0 v.toInt64) :: wd Y E σ2 0 LC) H := hP
    have hD : va_D (va_A (loA Y qo f :: wd Y E σ 0 LC) s.heap.size) (loA Y qo (vp_updL f 0 v.toInt64) :: wd Y E σ2 0 LC) := hD
    refine lv_goto (tgt := 19) hx hb dL_choice_12 (by decide) ?_
    refine lv_iconst (v := 0) hx hb dL_choice_19 (by decide) ?_
    refine W.widen (k := 1) (n := 6) (Nat.zero_le _) (Nat.zero_le _) ?_
    exact W.iret hx hb hr (fun t ht hW => ⟨⟨0, (), rfl, rfl, by rw [ht]; exact hP, va_K.moved hW.alike hC.2.2.2.1, hD⟩, hS.F ht⟩) hS.2.2 dL_choice_20 hlk
  · refine n_VX (Rs := [loA Y qo f]) (As := [.int a1, .int a2, .int a3]) (rest := [.int 0, .ref qo]) hC hb hml hl.1 hSW hP hD hS hA (c_X8_choice ht h) (cw_L_36 hC rfl rfl ⟨(Nat.le_of_ble_eq_true rfl), (Nat.le_of_ble_eq_true rfl)⟩) lc_0 rfl rfl rfl (Nat.le_of_ble_eq_true rfl) dL_choice_7 ⟨(Nat.le_of_ble_eq_true rfl), (Nat.le_of_ble_eq_true rfl)⟩ [] ({ startPc := 0, endPc := 12, handlerPc := 15, catchType := 24 }) [] htab (fun z hz => nomatch hz) (by decide) (by decide) (gw_t (tb4 (List.mem_of_getElem? (i := 188) rfl)) rfl) (by decide) rfl (fun q9 H locs hP hD hS => ?_)
    refine lv_astore (lv' := [(5, .ref q9), (0, .ref (E 0)), (1, .int a1), (2, .int a2), (3, .int a3), (4, .ref qo)]) hx hb dL_choice_15 hl (by decide) rfl (fun ls hl => ?_)
    refine lv_iconst (v := 1) hx hb dL_choice_17 (by decide) ?_
    exact W.iret hx hb hr (fun t ht hW => ⟨⟨1, (), rfl, rfl, by rw [ht]; exact hP, va_K.moved hW.alike hC.2.2.2.1, hD⟩, hS.F ht⟩) hS.2.2 dL_choice_18 hlk
theorem csL_choice {R : Room} {p : Program} {s : State} {m : MethodId} {args : Array Value} {D : va_G} {Y : CYs} (hC : Ctx p s m args RL D Y) (hR : rmL_choice.frames + 1 ≤ R.frames ∧ 8 + (6 + 11) + rmL_choice.locals ≤ R.locals) : vx_CSW R s args RL 145 yL_choice cL_choice 6 (some .int) [(0, 12, 15, 24)] (Cond.codeWith yL_choice cL_choice 6 (some .int) [(0, 12, 15, 24)] :: gW) rmL_choice 1 6 5 :=
  vx_cwSW 5 hC.2.1 (gi_Sh (gw_t (tb5 (List.mem_of_getElem? (i := 5) rfl)) rfl) (gw_t (tb5 (List.mem_of_getElem? (i := 6) rfl)) rfl) (gw_t (tb1 (List.mem_of_getElem? (i := 0) rfl)) rfl) (gw_t (tb5 (List.mem_of_getElem? (i := 7) rfl)) rfl)) rfl rfl rfl ⟨by decide +kernel, by decide +kernel, by decide +kernel⟩ hR

abbrev rmL_gain : Room := { frames := 10, cells := 1, slots := 6, locals := 170 }
set_option maxHeartbeats 4000000 in
set_option maxRecDepth 100000 in
theorem wL_gain {l : Launch} {D : va_G} {Y : CYs} {E : Nat → Nat} {qo : Nat} {f f2 : Nat → Int64} {σ σ2 : Sta} {a1 : Int32} {a2 : Int32} {a3 : Int32} {k : Int32} (ht : l.stackTraces = false) {o : Int64 ⊕ String} (h : f_X8_gain a1 a2 a3 σ = some (o, σ2)) (ho : (∃ v : Int64, o = .inl v ∧ k = 0 ∧ f2 = vp_updL f 0 v) ∨ (o = .inr eIOB ∧ k = 1 ∧ f = f2)) (sz : Nat) :
    Met l yL_gain (Cond.codeWith yL_gain cL_gain 6 (some .int) [(0, 11, 14, 24)] :: gW) rmL_gain (PcN (loA Y qo f :: wd Y E σ 0 LC) Y D sz [.ref (E 0), .int a1, .int a2, .int a3, .ref qo]) (QNi (loA Y qo f :: wd Y E σ 0 LC) (loA Y qo f2 :: wd Y E σ2 0 LC) Y D sz k) 1 6 (va_A (loA Y qo f :: wd Y E σ 0 LC) sz) := by
  refine Met_ofNH (Qc := fun sz => QNi (loA Y qo f :: wd Y E σ 0 LC) (loA Y qo f2 :: wd Y E σ2 0 LC) Y D sz k) (by decide) (Nat.le_of_ble_eq_true rfl) (fun p e s m args below meth c hC hb hml hr hlk hSW hP hD htab ls hl => ?_) sz
  have hx := hC.1
  have hA : ∀ q : Nat, s.heap.size ≤ q → va_A (loA Y qo f :: wd Y E σ 0 LC) s.heap.size q := fun q h => Or.inr h
  have hS : va_S (va_A (loA Y qo f :: wd Y E σ 0 LC) s.heap.size) s.heap s.heap [] := va_S.rf
  have hl : lv_has ls 6 [(0, .ref (E 0)), (1, .int a1), (2, .int a2), (3, .int a3), (4, .ref qo)] := hl
  refine lv_aload hx hb dL_gain_0 (lv_at hl 4 rfl) ?_
  refine lv_iconst (v := 0) hx hb dL_gain_2 (by decide) ?_
  refine lv_aload_n hx hb dL_gain_3 rfl (lv_at hl 0 rfl) ?_
  refine lv_iload_n hx hb dL_gain_4 rfl (lv_at hl 1 rfl) ?_
  refine lv_iload_n hx hb dL_gain_5 rfl (lv_at hl 2 rfl) ?_
  refine lv_iload_n hx hb dL_gain_6 rfl (lv_at hl 3 rfl) ?_
  rcases ho with ⟨v, rfl, rfl, rfl⟩ | ⟨rfl, rfl, rfl⟩
  · refine n_VL (Rs := [loA Y qo f]) (As := [.int a1, .int a2, .int a3]) (rest := [.int 0, .ref qo]) hC hb hml hl.1 hSW hP hD hS hA (c_X8_gain ht h) (cw_L_40 hC rfl rfl ⟨(Nat.le_of_ble_eq_true rfl), (Nat.le_of_ble_eq_true rfl)⟩) lc_0 rfl rfl rfl (Nat.le_of_ble_eq_true rfl) dL_gain_7 ⟨(Nat.le_of_ble_eq_true rfl), (Nat.le_of_ble_eq_true rfl)⟩ (fun H locs hP hD hS => ?_)
    refine va_last hx hb hC.2.2.2.1 hP hD hS 0 1 rfl rfl vin0 dL_gain_10 (fun H locs hP hD hS => ?_)
    have hP : va_P D vwCl (loA Y qo (vp_updL f 0 v) :: wd Y E σ2 0 LC) H := hP
    have hD : va_D (va_A (loA Y qo f :: wd Y E σ 0 LC) s.heap.size) (loA Y qo (vp_updL f 0 v) :: wd Y E σ2 0 LC) := hD
    refine lv_goto (tgt := 18) hx hb dL_gain_11 (by decide) ?_
    refine lv_iconst (v := 0) hx hb dL_gain_18 (by decide) ?_
    refine W.widen (k := 1) (n := 6) (Nat.zero_le _) (Nat.zero_le _) ?_
    exact W.iret hx hb hr (fun t ht hW => ⟨⟨0, (), rfl, rfl, by rw [ht]; exact hP, va_K.moved hW.alike hC.2.2.2.1, hD⟩, hS.F ht⟩) hS.2.2 dL_gain_19 hlk
  · refine n_VX (Rs := [loA Y qo f]) (As := [.int a1, .int a2, .int a3]) (rest := [.int 0, .ref qo]) hC hb hml hl.1 hSW hP hD hS hA (c_X8_gain ht h) (cw_L_40 hC rfl rfl ⟨(Nat.le_of_ble_eq_true rfl), (Nat.le_of_ble_eq_true rfl)⟩) lc_0 rfl rfl rfl (Nat.le_of_ble_eq_true rfl) dL_gain_7 ⟨(Nat.le_of_ble_eq_true rfl), (Nat.le_of_ble_eq_true rfl)⟩ [] ({ startPc := 0, endPc := 11, handlerPc := 14, catchType := 24 }) [] htab (fun z hz => nomatch hz) (by decide) (by decide) (gw_t (tb4 (List.mem_of_getElem? (i := 188) rfl)) rfl) (by decide) rfl (fun q9 H locs hP hD hS => ?_)
    refine lv_astore (lv' := [(5, .ref q9), (0, .ref (E 0)), (1, .int a1), (2, .int a2), (3, .int a3), (4, .ref qo)]) hx hb dL_gain_14 hl (by decide) rfl (fun ls hl => ?_)
    refine lv_iconst (v := 1) hx hb dL_gain_16 (by decide) ?_
    exact W.iret hx hb hr (fun t ht hW => ⟨⟨1, (), rfl, rfl, by rw [ht]; exact hP, va_K.moved hW.alike hC.2.2.2.1, hD⟩, hS.F ht⟩) hS.2.2 dL_gain_17 hlk
theorem csL_gain {R : Room} {p : Program} {s : State} {m : MethodId} {args : Array Value} {D : va_G} {Y : CYs} (hC : Ctx p s m args RL D Y) (hR : rmL_gain.frames + 1 ≤ R.frames ∧ 8 + (6 + 11) + rmL_gain.locals ≤ R.locals) : vx_CSW R s args RL 149 yL_gain cL_gain 6 (some .int) [(0, 11, 14, 24)] (Cond.codeWith yL_gain cL_gain 6 (some .int) [(0, 11, 14, 24)] :: gW) rmL_gain 1 6 5 :=
  vx_cwSW 5 hC.2.1 (gi_Sh (gw_t (tb5 (List.mem_of_getElem? (i := 26) rfl)) rfl) (gw_t (tb5 (List.mem_of_getElem? (i := 27) rfl)) rfl) (gw_t (tb1 (List.mem_of_getElem? (i := 0) rfl)) rfl) (gw_t (tb5 (List.mem_of_getElem? (i := 28) rfl)) rfl)) rfl rfl rfl ⟨by decide +kernel, by decide +kernel, by decide +kernel⟩ hR

abbrev rmL_branch : Room := { frames := 10, cells := 1, slots := 6, locals := 171 }
set_option maxHeartbeats 4000000 in
set_option maxRecDepth 100000 in
theorem wL_branch {l : Launch} {D : va_G} {Y : CYs} {E : Nat → Nat} {qo : Nat} {f f2 : Nat → Int64} {σ σ2 : Sta} {a1 : Int32} {a2 : Int32} {a3 : Int32} {a4 : Int32} {k : Int32} (ht : l.stackTraces = false) {o : Int32 ⊕ String} (h : f_X8_branch a1 a2 a3 a4 σ = some (o, σ2)) (ho : (∃ v : Int32, o = .inl v ∧ k = 0 ∧ f2 = vp_updL f 0 v.toInt64) ∨ (o = .inr eIOB ∧ k = 1 ∧ f = f2)) (sz : Nat) :
    Met l yL_branch (Cond.codeWith yL_branch cL_branch 7 (some .int) [(0, 14, 17, 24)] :: gW) rmL_branch (PcN (loA Y qo f :: wd Y E σ 0 LC) Y D sz [.ref (E 0), .int a1, .int a2, .int a3, .int a4, .ref qo]) (QNi (loA Y qo f :: wd Y E σ 0 LC) (loA Y qo f2 :: wd Y E σ2 0 LC) Y D sz k) 1 6 (va_A (loA Y qo f :: wd Y E σ 0 LC) sz) := by
  refine Met_ofNH (Qc := fun sz => QNi (loA Y qo f :: wd Y E σ 0 LC) (loA Y qo f2 :: wd Y E σ2 0 LC) Y D sz k) (by decide) (Nat.le_of_ble_eq_true rfl) (fun p e s m args below meth c hC hb hml hr hlk hSW hP hD htab ls hl => ?_) sz
  have hx := hC.1
  have hA : ∀ q : Nat, s.heap.size ≤ q → va_A (loA Y qo f :: wd Y E σ 0 LC) s.heap.size q := fun q h => Or.inr h
  have hS : va_S (va_A (loA Y qo f :: wd Y E σ 0 LC) s.heap.size) s.heap s.heap [] := va_S.rf
  have hl : lv_has ls 7 [(0, .ref (E 0)), (1, .int a1), (2, .int a2), (3, .int a3), (4, .int a4), (5, .ref qo)] := hl
  refine lv_aload hx hb dL_branch_0 (lv_at hl 5 rfl) ?_
  refine lv_iconst (v := 0) hx hb dL_branch_2 (by decide) ?_
  refine lv_aload_n hx hb dL_branch_3 rfl (lv_at hl 0 rfl) ?_
  refine lv_iload_n hx hb dL_branch_4 rfl (lv_at hl 1 rfl) ?_
  refine lv_iload_n hx hb dL_branch_5 rfl (lv_at hl 2 rfl) ?_
  refine lv_iload_n hx hb dL_branch_6 rfl (lv_at hl 3 rfl) ?_
  refine lv_iload hx hb dL_branch_7 (lv_at hl 4 rfl) ?_
  rcases ho with ⟨v, rfl, rfl, rfl⟩ | ⟨rfl, rfl, rfl⟩
  · refine n_VI (Rs := [loA Y qo f]) (As := [.int a1, .int a2, .int a3, .int a4]) (rest := [.int 0, .ref qo]) hC hb hml hl.1 hSW hP hD hS hA (c_X8_branch ht h) (cw_L_44 hC rfl rfl ⟨(Nat.le_of_ble_eq_true rfl), (Nat.le_of_ble_eq_true rfl)⟩) lc_0 rfl rfl rfl (Nat.le_of_ble_eq_true rfl) dL_branch_9 ⟨(Nat.le_of_ble_eq_true rfl), (Nat.le_of_ble_eq_true rfl)⟩ (fun H locs hP hD hS => ?_)
    refine lv_i2l (v := v.toInt64) hx hb dL_branch_12 rfl ?_
    refine va_last hx hb hC.2.2.2.1 hP hD hS 0 1 rfl rfl vin0 dL_branch_13 (fun H locs hP hD hS => ?_)
    have hP : va_P D vwCl (loA Y qo (vp_updL f 0 v.toInt64) :: wd Y E σ2 0 LC) H := hP
    have hD : va_D (va_A (loA Y qo f :: wd Y E σ 0 LC) s.heap.size) (loA Y qo (vp_updL f 0 v.toInt64) :: wd Y E σ2 0 LC) := hD
    refine lv_goto (tgt := 21) hx hb dL_branch_14 (by decide) ?_
    refine lv_iconst (v := 0) hx hb dL_branch_21 (by decide) ?_
    refine W.widen (k := 1) (n := 6) (Nat.zero_le _) (Nat.zero_le _) ?_
    exact W.iret hx hb hr (fun t ht hW => ⟨⟨0, (), rfl, rfl, by rw [ht]; exact hP, va_K.moved hW.alike hC.2.2.2.1, hD⟩, hS.F ht⟩) hS.2.2 dL_branch_22 hlk
  · refine n_VX (Rs := [loA Y qo f]) (As := [.int a1, .int a2, .int a3, .int a4]) (rest := [.int 0, .ref qo]) hC hb hml hl.1 hSW hP hD hS hA (c_X8_branch ht h) (cw_L_44 hC rfl rfl ⟨(Nat.le_of_ble_eq_true rfl), (Nat.le_of_ble_eq_true rfl)⟩) lc_0 rfl rfl rfl (Nat.le_of_ble_eq_true rfl) dL_branch_9 ⟨(Nat.le_of_ble_eq_true rfl), (Nat.le_of_ble_eq_true rfl)⟩ [] ({ startPc := 0, endPc := 14, handlerPc := 17, catchType := 24 }) [] htab (fun z hz => nomatch hz) (by decide) (by decide) (gw_t (tb4 (List.mem_of_getElem? (i := 188) rfl)) rfl) (by decide) rfl (fun q9 H locs hP hD hS => ?_)
    refine lv_astore (lv' := [(6, .ref q9), (0, .ref (E 0)), (1, .int a1), (2, .int a2), (3, .int a3), (4, .int a4), (5, .ref qo)]) hx hb dL_branch_17 hl (by decide) rfl (fun ls hl => ?_)
    refine lv_iconst (v := 1) hx hb dL_branch_19 (by decide) ?_
    exact W.iret hx hb hr (fun t ht hW => ⟨⟨1, (), rfl, rfl, by rw [ht]; exact hP, va_K.moved hW.alike hC.2.2.2.1, hD⟩, hS.F ht⟩) hS.2.2 dL_branch_20 hlk
theorem csL_branch {R : Room} {p : Program} {s : State} {m : MethodId} {args : Array Value} {D : va_G} {Y : CYs} (hC : Ctx p s m args RL D Y) (hR : rmL_branch.frames + 1 ≤ R.frames ∧ 8 + (7 + 11) + rmL_branch.locals ≤ R.locals) : vx_CSW R s args RL 152 yL_branch cL_branch 7 (some .int) [(0, 14, 17, 24)] (Cond.codeWith yL_branch cL_branch 7 (some .int) [(0, 14, 17, 24)] :: gW) rmL_branch 1 6 6 :=
  vx_cwSW 6 hC.2.1 (gi_Sh (gw_t (tb5 (List.mem_of_getElem? (i := 44) rfl)) rfl) (gw_t (tb5 (List.mem_of_getElem? (i := 45) rfl)) rfl) (gw_t (tb1 (List.mem_of_getElem? (i := 0) rfl)) rfl) (gw_t (tb5 (List.mem_of_getElem? (i := 46) rfl)) rfl)) rfl rfl rfl ⟨by decide +kernel, by decide +kernel, by decide +kernel⟩ hR

abbrev rmL_weigh : Room := { frames := 9, cells := 1, slots := 6, locals := 148 }
set_option maxHeartbeats 4000000 in
set_option maxRecDepth 100000 in
theorem wL_weigh {l : Launch} {D : va_G} {Y : CYs} {E : Nat → Nat} {qo : Nat} {f f2 : Nat → Int64} {σ σ2 : Sta} {a1 : Int32} {a2 : Int32} {k : Int32} (ht : l.stackTraces = false) {o : Int32 ⊕ String} (h : f_X8_weigh a1 a2 σ = some (o, σ2)) (ho : (∃ v : Int32, o = .inl v ∧ k = 0 ∧ f2 = vp_updL f 0 v.toInt64) ∨ (o = .inr eIOB ∧ k = 1 ∧ f = f2) ∨ (o = .inr eIAE ∧ k = 2 ∧ f = f2)) (sz : Nat) :
    Met l yL_weigh (Cond.codeWith yL_weigh cL_weigh 5 (some .int) [(0, 10, 13, 24), (0, 10, 17, 19)] :: gW) rmL_weigh (PcN (loA Y qo f :: wd Y E σ 0 LC) Y D sz [.ref (E 0), .int a1, .int a2, .ref qo]) (QNi (loA Y qo f :: wd Y E σ 0 LC) (loA Y qo f2 :: wd Y E σ2 0 LC) Y D sz k) 1 6 (va_A (loA Y qo f :: wd Y E σ 0 LC) sz) := by
  refine Met_ofNH (Qc := fun sz => QNi (loA Y qo f :: wd Y E σ 0 LC) (loA Y qo f2 :: wd Y E σ2 0 LC) Y D sz k) (by decide) (Nat.le_of_ble_eq_true rfl) (fun p e s m args below meth c hC hb hml hr hlk hSW hP hD htab ls hl => ?_) sz
  have hx := hC.1
  have hA : ∀ q : Nat, s.heap.size ≤ q → va_A (loA Y qo f :: wd Y E σ 0 LC) s.heap.size q := fun q h => Or.inr h
  have hS : va_S (va_A (loA Y qo f :: wd Y E σ 0 LC) s.heap.size) s.heap s.heap [] := va_S.rf
  have hl : lv_has ls 5 [(0, .ref (E 0)), (1, .int a1), (2, .int a2), (3, .ref qo)] := hl
  refine lv_aload_n hx hb dL_weigh_0 rfl (lv_at hl 3 rfl) ?_
  refine lv_iconst (v := 0) hx hb dL_weigh_1 (by decide) ?_
  refine lv_aload_n hx hb dL_weigh_2 rfl (lv_at hl 0 rfl) ?_
  refine lv_iload_n hx hb dL_weigh_3 rfl (lv_at hl 1 rfl) ?_
  refine lv_iload_n hx hb dL_weigh_4 rfl (lv_at hl 2 rfl) ?_
  rcases ho with ⟨v, rfl, rfl, rfl⟩ | ⟨rfl, rfl, rfl⟩ | ⟨rfl, rfl, rfl⟩
  · refine n_VI (Rs := [loA Y qo f]) (As := [.int a1, .int a2]) (rest := [.int 0, .ref qo]) hC hb hml hl.1 hSW hP hD hS hA (c_X8_weigh ht h) (cw_L_48 hC rfl rfl ⟨(Nat.le_of_ble_eq_true rfl), (Nat.le_of_ble_eq_true rfl)⟩) lc_0 rfl rfl rfl (Nat.le_of_ble_eq_true rfl) dL_weigh_5 ⟨(Nat.le_of_ble_eq_true rfl), (Nat.le_of_ble_eq_true rfl)⟩ (fun H locs hP hD hS => ?_)
    refine lv_i2l (v := v.toInt64) hx hb dL_weigh_8 rfl ?_
    refine va_last hx hb hC.2.2.2.1 hP hD hS 0 1 rfl rfl vin0 dL_weigh_9 (fun H locs hP hD hS => ?_)
    have hP : va_P D vwCl (loA Y qo (vp_updL f 0 v.toInt64) :: wd Y E σ2 0 LC) H := hP
    have hD : va_D (va_A (loA Y qo f :: wd Y E σ 0 LC) s.heap.size) (loA Y qo (vp_updL f 0 v.toInt64) :: wd Y E σ2 0 LC) := hD
    refine lv_goto (tgt := 21) hx hb dL_weigh_10 (by decide) ?_
    refine lv_iconst (v := 0) hx hb dL_weigh_21 (by decide) ?_
    refine W.widen (k := 1) (n := 6) (Nat.zero_le _) (Nat.zero_le _) ?_
    exact W.iret hx hb hr (fun t ht hW => ⟨⟨0, (), rfl, rfl, by rw [ht]; exact hP, va_K.moved hW.alike hC.2.2.2.1, hD⟩, hS.F ht⟩) hS.2.2 dL_weigh_22 hlk
  · refine n_VX (Rs := [loA Y qo f]) (As := [.int a1, .int a2]) (rest := [.int 0, .ref qo]) hC hb hml hl.1 hSW hP hD hS hA (c_X8_weigh ht h) (cw_L_48 hC rfl rfl ⟨(Nat.le_of_ble_eq_true rfl), (Nat.le_of_ble_eq_true rfl)⟩) lc_0 rfl rfl rfl (Nat.le_of_ble_eq_true rfl) dL_weigh_5 ⟨(Nat.le_of_ble_eq_true rfl), (Nat.le_of_ble_eq_true rfl)⟩ [] ({ startPc := 0, endPc := 10, handlerPc := 13, catchType := 24 }) [{ startPc := 0, endPc := 10, handlerPc := 17, catchType := 19 }] htab (fun z hz => nomatch hz) (by decide) (by decide) (gw_t (tb4 (List.mem_of_getElem? (i := 188) rfl)) rfl) (by decide) rfl (fun q9 H locs hP hD hS => ?_)
    refine lv_astore (lv' := [(4, .ref q9), (0, .ref (E 0)), (1, .int a1), (2, .int a2), (3, .ref qo)]) hx hb dL_weigh_13 hl (by decide) rfl (fun ls hl => ?_)
    refine lv_iconst (v := 1) hx hb dL_weigh_15 (by decide) ?_
    exact W.iret hx hb hr (fun t ht hW => ⟨⟨1, (), rfl, rfl, by rw [ht]; exact hP, va_K.moved hW.alike hC.2.2.2.1, hD⟩, hS.F ht⟩) hS.2.2 dL_weigh_16 hlk
  · refine n_VX (Rs := [loA Y qo f]) (As := [.int a1, .int a2]) (rest := [.int 0, .ref qo]) hC hb hml hl.1 hSW hP hD hS hA (c_X8_weigh ht h) (cw_L_48 hC rfl rfl ⟨(Nat.le_of_ble_eq_true rfl), (Nat.le_of_ble_eq_true rfl)⟩) lc_0 rfl rfl rfl (Nat.le_of_ble_eq_true rfl) dL_weigh_5 ⟨(Nat.le_of_ble_eq_true rfl), (Nat.le_of_ble_eq_true rfl)⟩ [{ startPc := 0, endPc := 10, handlerPc := 13, catchType := 24 }] ({ startPc := 0, endPc := 10, handlerPc := 17, catchType := 19 }) [] htab (fun z hz => by
      simp only [List.mem_cons, List.not_mem_nil, or_false] at hz
      rcases hz with rfl
      · exact ⟨by decide, eIOB, (gw_t (tb4 (List.mem_of_getElem? (i := 188) rfl)) rfl), by decide⟩) (by decide) (by decide) (gw_t (tb4 (List.mem_of_getElem? (i := 160) rfl)) rfl) (by decide) rfl (fun q9 H locs hP hD hS => ?_)
    refine lv_astore (lv' := [(4, .ref q9), (0, .ref (E 0)), (1, .int a1), (2, .int a2), (3, .ref qo)]) hx hb dL_weigh_17 hl (by decide) rfl (fun ls hl => ?_)
    refine lv_iconst (v := 2) hx hb dL_weigh_19 (by decide) ?_
    exact W.iret hx hb hr (fun t ht hW => ⟨⟨2, (), rfl, rfl, by rw [ht]; exact hP, va_K.moved hW.alike hC.2.2.2.1, hD⟩, hS.F ht⟩) hS.2.2 dL_weigh_20 hlk
theorem csL_weigh {R : Room} {p : Program} {s : State} {m : MethodId} {args : Array Value} {D : va_G} {Y : CYs} (hC : Ctx p s m args RL D Y) (hR : rmL_weigh.frames + 1 ≤ R.frames ∧ 8 + (5 + 11) + rmL_weigh.locals ≤ R.locals) : vx_CSW R s args RL 156 yL_weigh cL_weigh 5 (some .int) [(0, 10, 13, 24), (0, 10, 17, 19)] (Cond.codeWith yL_weigh cL_weigh 5 (some .int) [(0, 10, 13, 24), (0, 10, 17, 19)] :: gW) rmL_weigh 1 6 4 :=
  vx_cwSW 4 hC.2.1 (gi_Sh (gw_t (tb5 (List.mem_of_getElem? (i := 59) rfl)) rfl) (gw_t (tb5 (List.mem_of_getElem? (i := 60) rfl)) rfl) (gw_t (tb1 (List.mem_of_getElem? (i := 0) rfl)) rfl) (gw_t (tb5 (List.mem_of_getElem? (i := 61) rfl)) rfl)) rfl rfl rfl ⟨by decide +kernel, by decide +kernel, by decide +kernel⟩ hR

abbrev rmL_solve : Room := { frames := 8, cells := 1, slots := 6, locals := 170 }
set_option maxHeartbeats 4000000 in
set_option maxRecDepth 100000 in
theorem wL_solve {l : Launch} {D : va_G} {Y : CYs} {E : Nat → Nat} {qo : Nat} {f f2 : Nat → Int64} {σ σ2 : Sta} {a1 : Int32} {k : Int32} (ht : l.stackTraces = false) {o : Int32 ⊕ String} (h : f_X8_solve a1 σ = some (o, σ2)) (ho : (∃ v : Int32, o = .inl v ∧ k = 0 ∧ f2 = vp_updL f 0 v.toInt64) ∨ (o = .inr eIAE ∧ k = 1 ∧ f = f2) ∨ (o = .inr eISE ∧ k = 2 ∧ f = f2)) (sz : Nat) :
    Met l yL_solve (Cond.codeWith yL_solve cL_solve 4 (some .int) [(0, 9, 12, 19), (0, 9, 15, 13)] :: gW) rmL_solve (PcN (loA Y qo f :: wd Y E σ 0 LC) Y D sz [.ref (E 0), .int a1, .ref qo]) (QNi (loA Y qo f :: wd Y E σ 0 LC) (loA Y qo f2 :: wd Y E σ2 0 LC) Y D sz k) 1 6 (va_A (loA Y qo f :: wd Y E σ 0 LC) sz) := by
  refine Met_ofNH (Qc := fun sz => QNi (loA Y qo f :: wd Y E σ 0 LC) (loA Y qo f2 :: wd Y E σ2 0 LC) Y D sz k) (by decide) (Nat.le_of_ble_eq_true rfl) (fun p e s m args below meth c hC hb hml hr hlk hSW hP hD htab ls hl => ?_) sz
  have hx := hC.1
  have hA : ∀ q : Nat, s.heap.size ≤ q → va_A (loA Y qo f :: wd Y E σ 0 LC) s.heap.size q := fun q h => Or.inr h
  have hS : va_S (va_A (loA Y qo f :: wd Y E σ 0 LC) s.heap.size) s.heap s.heap [] := va_S.rf
  have hl : lv_has ls 4 [(0, .ref (E 0)), (1, .int a1), (2, .ref qo)] := hl
  refine lv_aload_n hx hb dL_solve_0 rfl (lv_at hl 2 rfl) ?_
  refine lv_iconst (v := 0) hx hb dL_solve_1 (by decide) ?_
  refine lv_aload_n hx hb dL_solve_2 rfl (lv_at hl 0 rfl) ?_
  refine lv_iload_n hx hb dL_solve_3 rfl (lv_at hl 1 rfl) ?_
  rcases ho with ⟨v, rfl, rfl, rfl⟩ | ⟨rfl, rfl, rfl⟩ | ⟨rfl, rfl, rfl⟩
  · refine n_VI (Rs := [loA Y qo f]) (As := [.int a1]) (rest := [.int 0, .ref qo]) hC hb hml hl.1 hSW hP hD hS hA (c_X8_solve ht h) (cw_L_51 hC rfl rfl ⟨(Nat.le_of_ble_eq_true rfl), (Nat.le_of_ble_eq_true rfl)⟩) lc_0 rfl rfl rfl (Nat.le_of_ble_eq_true rfl) dL_solve_4 ⟨(Nat.le_of_ble_eq_true rfl), (Nat.le_of_ble_eq_true rfl)⟩ (fun H locs hP hD hS => ?_)
    refine lv_i2l (v := v.toInt64) hx hb dL_solve_7 rfl ?_
    refine va_last hx hb hC.2.2.2.1 hP hD hS 0 1 rfl rfl vin0 dL_solve_8 (fun H locs hP hD hS => ?_)
    have hP : va_P D vwCl (loA Y qo (vp_updL f 0 v.toInt64) :: wd Y E σ2 0 LC) H := hP
    have hD : va_D (va_A (loA Y qo f :: wd Y E σ 0 LC) s.heap.size) (loA Y qo (vp_updL f 0 v.toInt64) :: wd Y E σ2 0 LC) := hD
    refine lv_goto (tgt := 18) hx hb dL_solve_9 (by decide) ?_
    refine lv_iconst (v := 0) hx hb dL_solve_18 (by decide) ?_
    refine W.widen (k := 1) (n := 6) (Nat.zero_le _) (Nat.zero_le _) ?_
    exact W.iret hx hb hr (fun t ht hW => ⟨⟨0, (), rfl, rfl, by rw [ht]; exact hP, va_K.moved hW.alike hC.2.2.2.1, hD⟩, hS.F ht⟩) hS.2.2 dL_solve_19 hlk
  · refine n_VX (Rs := [loA Y qo f]) (As := [.int a1]) (rest := [.int 0, .ref qo]) hC hb hml hl.1 hSW hP hD hS hA (c_X8_solve ht h) (cw_L_51 hC rfl rfl ⟨(Nat.le_of_ble_eq_true rfl), (Nat.le_of_ble_eq_true rfl)⟩) lc_0 rfl rfl rfl (Nat.le_of_ble_eq_true rfl) dL_solve_4 ⟨(Nat.le_of_ble_eq_true rfl), (Nat.le_of_ble_eq_true rfl)⟩ [] ({ startPc := 0, endPc := 9, handlerPc := 12, catchType := 19 }) [{ startPc := 0, endPc := 9, handlerPc := 15, catchType := 13 }] htab (fun z hz => nomatch hz) (by decide) (by decide) (gw_t (tb4 (List.mem_of_getElem? (i := 160) rfl)) rfl) (by decide) rfl (fun q9 H locs hP hD hS => ?_)
    refine lv_astore_n (lv' := [(3, .ref q9), (0, .ref (E 0)), (1, .int a1), (2, .ref qo)]) hx hb dL_solve_12 rfl hl (by decide) rfl (fun ls hl => ?_)
    refine lv_iconst (v := 1) hx hb dL_solve_13 (by decide) ?_
    exact W.iret hx hb hr (fun t ht hW => ⟨⟨1, (), rfl, rfl, by rw [ht]; exact hP, va_K.moved hW.alike hC.2.2.2.1, hD⟩, hS.F ht⟩) hS.2.2 dL_solve_14 hlk
  · refine n_VX (Rs := [loA Y qo f]) (As := [.int a1]) (rest := [.int 0, .ref qo]) hC hb hml hl.1 hSW hP hD hS hA (c_X8_solve ht h) (cw_L_51 hC rfl rfl ⟨(Nat.le_of_ble_eq_true rfl), (Nat.le_of_ble_eq_true rfl)⟩) lc_0 rfl rfl rfl (Nat.le_of_ble_eq_true rfl) dL_solve_4 ⟨(Nat.le_of_ble_eq_true rfl), (Nat.le_of_ble_eq_true rfl)⟩ [{ startPc := 0, endPc := 9, handlerPc := 12, catchType := 19 }] ({ startPc := 0, endPc := 9, handlerPc := 15, catchType := 13 }) [] htab (fun z hz => by
      simp only [List.mem_cons, List.not_mem_nil, or_false] at hz
      rcases hz with rfl
      · exact ⟨by decide, eIAE, (gw_t (tb4 (List.mem_of_getElem? (i := 160) rfl)) rfl), by decide⟩) (by decide) (by decide) (gw_t (tb4 (List.mem_of_getElem? (i := 80) rfl)) rfl) (by decide) rfl (fun q9 H locs hP hD hS => ?_)
    refine lv_astore_n (lv' := [(3, .ref q9), (0, .ref (E 0)), (1, .int a1), (2, .ref qo)]) hx hb dL_solve_15 rfl hl (by decide) rfl (fun ls hl => ?_)
    refine lv_iconst (v := 2) hx hb dL_solve_16 (by decide) ?_
    exact W.iret hx hb hr (fun t ht hW => ⟨⟨2, (), rfl, rfl, by rw [ht]; exact hP, va_K.moved hW.alike hC.2.2.2.1, hD⟩, hS.F ht⟩) hS.2.2 dL_solve_17 hlk
theorem csL_solve {R : Room} {p : Program} {s : State} {m : MethodId} {args : Array Value} {D : va_G} {Y : CYs} (hC : Ctx p s m args RL D Y) (hR : rmL_solve.frames + 1 ≤ R.frames ∧ 8 + (4 + 11) + rmL_solve.locals ≤ R.locals) : vx_CSW R s args RL 159 yL_solve cL_solve 4 (some .int) [(0, 9, 12, 19), (0, 9, 15, 13)] (Cond.codeWith yL_solve cL_solve 4 (some .int) [(0, 9, 12, 19), (0, 9, 15, 13)] :: gW) rmL_solve 1 6 3 :=
  vx_cwSW 3 hC.2.1 (gi_Sh (gw_t (tb5 (List.mem_of_getElem? (i := 66) rfl)) rfl) (gw_t (tb5 (List.mem_of_getElem? (i := 67) rfl)) rfl) (gw_t (tb1 (List.mem_of_getElem? (i := 0) rfl)) rfl) (gw_t (tb5 (List.mem_of_getElem? (i := 68) rfl)) rfl)) rfl rfl rfl ⟨by decide +kernel, by decide +kernel, by decide +kernel⟩ hR

abbrev rmL_takes : Room := { frames := 9, cells := 1, slots := 6, locals := 149 }
set_option maxHeartbeats 4000000 in
set_option maxRecDepth 100000 in
theorem wL_takes {l : Launch} {D : va_G} {Y : CYs} {E : Nat → Nat} {qo : Nat} {f f2 : Nat → Int64} {σ σ2 : Sta} {a1 : Int32} {a2 : Int32} {a3 : Int32} {k : Int32} (ht : l.stackTraces = false) {o : Int32 ⊕ String} (h : f_X8_takes a1 a2 a3 σ = some (o, σ2)) (ho : (∃ v : Int32, o = .inl v ∧ k = 0 ∧ f2 = vp_updL f 0 v.toInt64) ∨ (o = .inr eIOB ∧ k = 1 ∧ f = f2) ∨ (o = .inr eIAE ∧ k = 2 ∧ f = f2)) (sz : Nat) :
    Met l yL_takes (Cond.codeWith yL_takes cL_takes 6 (some .int) [(0, 12, 15, 24), (0, 12, 19, 19)] :: gW) rmL_takes (PcN (loA Y qo f :: wd Y E σ 0 LC) Y D sz [.ref (E 0), .int a1, .int a2, .int a3, .ref qo]) (QNi (loA Y qo f :: wd Y E σ 0 LC) (loA Y qo f2 :: wd Y E σ2 0 LC) Y D sz k) 1 6 (va_A (loA Y qo f :: wd Y E σ 0 LC) sz) := by
  refine Met_ofNH (Qc := fun sz => QNi (loA Y qo f :: wd Y E σ 0 LC) (loA Y qo f2 :: wd Y E σ2 0 LC) Y D sz k) (by decide) (Nat.le_of_ble_eq_true rfl) (fun p e s m args below meth c hC hb hml hr hlk hSW hP hD htab ls hl => ?_) sz
  have hx := hC.1
  have hA : ∀ q : Nat, s.heap.size ≤ q → va_A (loA Y qo f :: wd Y E σ 0 LC) s.heap.size q := fun q h => Or.inr h
  have hS : va_S (va_A (loA Y qo f :: wd Y E σ 0 LC) s.heap.size) s.heap s.heap [] := va_S.rf
  have hl : lv_has ls 6 [(0, .ref (E 0)), (1, .int a1), (2, .int a2), (3, .int a3), (4, .ref qo)] := hl
  refine lv_aload hx hb dL_takes_0 (lv_at hl 4 rfl) ?_
  refine lv_iconst (v := 0) hx hb dL_takes_2 (by decide) ?_
  refine lv_aload_n hx hb dL_takes_3 rfl (lv_at hl 0 rfl) ?_
  refine lv_iload_n hx hb dL_takes_4 rfl (lv_at hl 1 rfl) ?_
  refine lv_iload_n hx hb dL_takes_5 rfl (lv_at hl 2 rfl) ?_
  refine lv_iload_n hx hb dL_takes_6 rfl (lv_at hl 3 rfl) ?_
  rcases ho with ⟨v, rfl, rfl, rfl⟩ | ⟨rfl, rfl, rfl⟩ | ⟨rfl, rfl, rfl⟩
  · refine n_VI (Rs := [loA Y qo f]) (As := [.int a1, .int a2, .int a3]) (rest := [.int 0, .ref qo]) hC hb hml hl.1 hSW hP hD hS hA (c_X8_takes ht h) (cw_L_54 hC rfl rfl ⟨(Nat.le_of_ble_eq_true rfl), (Nat.le_of_ble_eq_true rfl)⟩) lc_0 rfl rfl rfl (Nat.le_of_ble_eq_true rfl) dL_takes_7 ⟨(Nat.le_of_ble_eq_true rfl), (Nat.le_of_ble_eq_true rfl)⟩ (fun H locs hP hD hS => ?_)
    refine lv_i2l (v := v.toInt64) hx hb dL_takes_10 rfl ?_
    refine va_last hx hb hC.2.2.2.1 hP hD hS 0 1 rfl rfl vin0 dL_takes_11 (fun H locs hP hD hS => ?_)
    have hP : va_P D vwCl (loA Y qo (vp_updL f 0 v.toInt64) :: wd Y E σ2 0 LC) H := hP
    have hD : va_D (va_A (loA Y qo f :: wd Y E σ 0 LC) s.heap.size) (loA Y qo (vp_updL f 0 v.toInt64) :: wd Y E σ2 0 LC) := hD
    refine lv_goto (tgt := 23) hx hb dL_takes_12 (by decide) ?_
    refine lv_iconst (v := 0) hx hb dL_takes_23 (by decide) ?_
    refine W.widen (k := 1) (n := 6) (Nat.zero_le _) (Nat.zero_le _) ?_
    exact W.iret hx hb hr (fun t ht hW => ⟨⟨0, (), rfl, rfl, by rw [ht]; exact hP, va_K.moved hW.alike hC.2.2.2.1, hD⟩, hS.F ht⟩) hS.2.2 dL_takes_24 hlk
  · refine n_VX (Rs := [loA Y qo f]) (As := [.int a1, .int a2, .int a3]) (rest := [.int 0, .ref qo]) hC hb hml hl.1 hSW hP hD hS hA (c_X8_takes ht h) (cw_L_54 hC rfl rfl ⟨(Nat.le_of_ble_eq_true rfl), (Nat.le_of_ble_eq_true rfl)⟩) lc_0 rfl rfl rfl (Nat.le_of_ble_eq_true rfl) dL_takes_7 ⟨(Nat.le_of_ble_eq_true rfl), (Nat.le_of_ble_eq_true rfl)⟩ [] ({ startPc := 0, endPc := 12, handlerPc := 15, catchType := 24 }) [{ startPc := 0, endPc := 12, handlerPc := 19, catchType := 19 }] htab (fun z hz => nomatch hz) (by decide) (by decide) (gw_t (tb4 (List.mem_of_getElem? (i := 188) rfl)) rfl) (by decide) rfl (fun q9 H locs hP hD hS => ?_)
    refine lv_astore (lv' := [(5, .ref q9), (0, .ref (E 0)), (1, .int a1), (2, .int a2), (3, .int a3), (4, .ref qo)]) hx hb dL_takes_15 hl (by decide) rfl (fun ls hl => ?_)
    refine lv_iconst (v := 1) hx hb dL_takes_17 (by decide) ?_
    exact W.iret hx hb hr (fun t ht hW => ⟨⟨1, (), rfl, rfl, by rw [ht]; exact hP, va_K.moved hW.alike hC.2.2.2.1, hD⟩, hS.F ht⟩) hS.2.2 dL_takes_18 hlk
  · refine n_VX (Rs := [loA Y qo f]) (As := [.int a1, .int a2, .int a3]) (rest := [.int 0, .ref qo]) hC hb hml hl.1 hSW hP hD hS hA (c_X8_takes ht h) (cw_L_54 hC rfl rfl ⟨(Nat.le_of_ble_eq_true rfl), (Nat.le_of_ble_eq_true rfl)⟩) lc_0 rfl rfl rfl (Nat.le_of_ble_eq_true rfl) dL_takes_7 ⟨(Nat.le_of_ble_eq_true rfl), (Nat.le_of_ble_eq_true rfl)⟩ [{ startPc := 0, endPc := 12, handlerPc := 15, catchType := 24 }] ({ startPc := 0, endPc := 12, handlerPc := 19, catchType := 19 }) [] htab (fun z hz => by
      simp only [List.mem_cons, List.not_mem_nil, or_false] at hz
      rcases hz with rfl
      · exact ⟨by decide, eIOB, (gw_t (tb4 (List.mem_of_getElem? (i := 188) rfl)) rfl), by decide⟩) (by decide) (by decide) (gw_t (tb4 (List.mem_of_getElem? (i := 160) rfl)) rfl) (by decide) rfl (fun q9 H locs hP hD hS => ?_)
    refine lv_astore (lv' := [(5, .ref q9), (0, .ref (E 0)), (1, .int a1), (2, .int a2), (3, .int a3), (4, .ref qo)]) hx hb dL_takes_19 hl (by decide) rfl (fun ls hl => ?_)
    refine lv_iconst (v := 2) hx hb dL_takes_21 (by decide) ?_
    exact W.iret hx hb hr (fun t ht hW => ⟨⟨2, (), rfl, rfl, by rw [ht]; exact hP, va_K.moved hW.alike hC.2.2.2.1, hD⟩, hS.F ht⟩) hS.2.2 dL_takes_22 hlk
theorem csL_takes {R : Room} {p : Program} {s : State} {m : MethodId} {args : Array Value} {D : va_G} {Y : CYs} (hC : Ctx p s m args RL D Y) (hR : rmL_takes.frames + 1 ≤ R.frames ∧ 8 + (6 + 11) + rmL_takes.locals ≤ R.locals) : vx_CSW R s args RL 162 yL_takes cL_takes 6 (some .int) [(0, 12, 15, 24), (0, 12, 19, 19)] (Cond.codeWith yL_takes cL_takes 6 (some .int) [(0, 12, 15, 24), (0, 12, 19, 19)] :: gW) rmL_takes 1 6 5 :=
  vx_cwSW 5 hC.2.1 (gi_Sh (gw_t (tb5 (List.mem_of_getElem? (i := 130) rfl)) rfl) (gw_t (tb5 (List.mem_of_getElem? (i := 131) rfl)) rfl) (gw_t (tb1 (List.mem_of_getElem? (i := 0) rfl)) rfl) (gw_t (tb5 (List.mem_of_getElem? (i := 132) rfl)) rfl)) rfl rfl rfl ⟨by decide +kernel, by decide +kernel, by decide +kernel⟩ hR

abbrev rmL_worth : Room := { frames := 9, cells := 1, slots := 6, locals := 149 }
set_option maxHeartbeats 4000000 in
set_option maxRecDepth 100000 in
theorem wL_worth {l : Launch} {D : va_G} {Y : CYs} {E : Nat → Nat} {qo : Nat} {f f2 : Nat → Int64} {σ σ2 : Sta} {a1 : Int32} {a2 : Int32} {a3 : Int32} {k : Int32} (ht : l.stackTraces = false) {o : Int64 ⊕ String} (h : f_X8_worth a1 a2 a3 σ = some (o, σ2)) (ho : (∃ v : Int64, o = .inl v ∧ k = 0 ∧ f2 = vp_updL f 0 v) ∨ (o = .inr eIOB ∧ k = 1 ∧ f = f2) ∨ (o = .inr eIAE ∧ k = 2 ∧ f = f2)) (sz : Nat) :
    Met l yL_worth (Cond.codeWith yL_worth cL_worth 6 (some .int) [(0, 11, 14, 24), (0, 11, 18, 19)] :: gW) rmL_worth (PcN (loA Y qo f :: wd Y E σ 0 LC) Y D sz [.ref (E 0), .int a1, .int a2, .int a3, .ref qo]) (QNi (loA Y qo f :: wd Y E σ 0 LC) (loA Y qo f2 :: wd Y E σ2 0 LC) Y D sz k) 1 6 (va_A (loA Y qo f :: wd Y E σ 0 LC) sz) := by
  refine Met_ofNH (Qc := fun sz => QNi (loA Y qo f :: wd Y E σ 0 LC) (loA Y qo f2 :: wd Y E σ2 0 LC) Y D sz k) (by decide) (Nat.le_of_ble_eq_true rfl) (fun p e s m args below meth c hC hb hml hr hlk hSW hP hD htab ls hl => ?_) sz
  have hx := hC.1
  have hA : ∀ q : Nat, s.heap.size ≤ q → va_A (loA Y qo f :: wd Y E σ 0 LC) s.heap.size q := fun q h => Or.inr h
  have hS : va_S (va_A (loA Y qo f :: wd Y E σ 0 LC) s.heap.size) s.heap s.heap [] := va_S.rf
  have hl : lv_has ls 6 [(0, .ref (E 0)), (1, .int a1), (2, .int a2), (3, .int a3), (4, .ref qo)] := hl
  refine lv_aload hx hb dL_worth_0 (lv_at hl 4 rfl) ?_
  refine lv_iconst (v := 0) hx hb dL_worth_2 (by decide) ?_
  refine lv_aload_n hx hb dL_worth_3 rfl (lv_at hl 0 rfl) ?_
  refine lv_iload_n hx hb dL_worth_4 rfl (lv_at hl 1 rfl) ?_
  refine lv_iload_n hx hb dL_worth_5 rfl (lv_at hl 2 rfl) ?_
  refine lv_iload_n hx hb dL_worth_6 rfl (lv_at hl 3 rfl) ?_
  rcases ho with ⟨v, rfl, rfl, rfl⟩ | ⟨rfl, rfl, rfl⟩ | ⟨rfl, rfl, rfl⟩
  · refine n_VL (Rs := [loA Y qo f]) (As := [.int a1, .int a2, .int a3]) (rest := [.int 0, .ref qo]) hC hb hml hl.1 hSW hP hD hS hA (c_X8_worth ht h) (cw_L_57 hC rfl rfl ⟨(Nat.le_of_ble_eq_true rfl), (Nat.le_of_ble_eq_true rfl)⟩) lc_0 rfl rfl rfl (Nat.le_of_ble_eq_true rfl) dL_worth_7 ⟨(Nat.le_of_ble_eq_true rfl), (Nat.le_of_ble_eq_true rfl)⟩ (fun H locs hP hD hS => ?_)
    refine va_last hx hb hC.2.2.2.1 hP hD hS 0 1 rfl rfl vin0 dL_worth_10 (fun H locs hP hD hS => ?_)
    have hP : va_P D vwCl (loA Y qo (vp_updL f 0 v) :: wd Y E σ2 0 LC) H := hP
    have hD : va_D (va_A (loA Y qo f :: wd Y E σ 0 LC) s.heap.size) (loA Y qo (vp_updL f 0 v) :: wd Y E σ2 0 LC) := hD
    refine lv_goto (tgt := 22) hx hb dL_worth_11 (by decide) ?_
    refine lv_iconst (v := 0) hx hb dL_worth_22 (by decide) ?_
    refine W.widen (k := 1) (n := 6) (Nat.zero_le _) (Nat.zero_le _) ?_
    exact W.iret hx hb hr (fun t ht hW => ⟨⟨0, (), rfl, rfl, by rw [ht]; exact hP, va_K.moved hW.alike hC.2.2.2.1, hD⟩, hS.F ht⟩) hS.2.2 dL_worth_23 hlk
  · refine n_VX (Rs := [loA Y qo f]) (As := [.int a1, .int a2, .int a3]) (rest := [.int 0, .ref qo]) hC hb hml hl.1 hSW hP hD hS hA (c_X8_worth ht h) (cw_L_57 hC rfl rfl ⟨(Nat.le_of_ble_eq_true rfl), (Nat.le_of_ble_eq_true rfl)⟩) lc_0 rfl rfl rfl (Nat.le_of_ble_eq_true rfl) dL_worth_7 ⟨(Nat.le_of_ble_eq_true rfl), (Nat.le_of_ble_eq_true rfl)⟩ [] ({ startPc := 0, endPc := 11, handlerPc := 14, catchType := 24 }) [{ startPc := 0, endPc := 11, handlerPc := 18, catchType := 19 }] htab (fun z hz => nomatch hz) (by decide) (by decide) (gw_t (tb4 (List.mem_of_getElem? (i := 188) rfl)) rfl) (by decide) rfl (fun q9 H locs hP hD hS => ?_)
    refine lv_astore (lv' := [(5, .ref q9), (0, .ref (E 0)), (1, .int a1), (2, .int a2), (3, .int a3), (4, .ref qo)]) hx hb dL_worth_14 hl (by decide) rfl (fun ls hl => ?_)
    refine lv_iconst (v := 1) hx hb dL_worth_16 (by decide) ?_
    exact W.iret hx hb hr (fun t ht hW => ⟨⟨1, (), rfl, rfl, by rw [ht]; exact hP, va_K.moved hW.alike hC.2.2.2.1, hD⟩, hS.F ht⟩) hS.2.2 dL_worth_17 hlk
  · refine n_VX (Rs := [loA Y qo f]) (As := [.int a1, .int a2, .int a3]) (rest := [.int 0, .ref qo]) hC hb hml hl.1 hSW hP hD hS hA (c_X8_worth ht h) (cw_L_57 hC rfl rfl ⟨(Nat.le_of_ble_eq_true rfl), (Nat.le_of_ble_eq_true rfl)⟩) lc_0 rfl rfl rfl (Nat.le_of_ble_eq_true rfl) dL_worth_7 ⟨(Nat.le_of_ble_eq_true rfl), (Nat.le_of_ble_eq_true rfl)⟩ [{ startPc := 0, endPc := 11, handlerPc := 14, catchType := 24 }] ({ startPc := 0, endPc := 11, handlerPc := 18, catchType := 19 }) [] htab (fun z hz => by
      simp only [List.mem_cons, List.not_mem_nil, or_false] at hz
      rcases hz with rfl
      · exact ⟨by decide, eIOB, (gw_t (tb4 (List.mem_of_getElem? (i := 188) rfl)) rfl), by decide⟩) (by decide) (by decide) (gw_t (tb4 (List.mem_of_getElem? (i := 160) rfl)) rfl) (by decide) rfl (fun q9 H locs hP hD hS => ?_)
    refine lv_astore (lv' := [(5, .ref q9), (0, .ref (E 0)), (1, .int a1), (2, .int a2), (3, .int a3), (4, .ref qo)]) hx hb dL_worth_18 hl (by decide) rfl (fun ls hl => ?_)
    refine lv_iconst (v := 2) hx hb dL_worth_20 (by decide) ?_
    exact W.iret hx hb hr (fun t ht hW => ⟨⟨2, (), rfl, rfl, by rw [ht]; exact hP, va_K.moved hW.alike hC.2.2.2.1, hD⟩, hS.F ht⟩) hS.2.2 dL_worth_21 hlk
theorem csL_worth {R : Room} {p : Program} {s : State} {m : MethodId} {args : Array Value} {D : va_G} {Y : CYs} (hC : Ctx p s m args RL D Y) (hR : rmL_worth.frames + 1 ≤ R.frames ∧ 8 + (6 + 11) + rmL_worth.locals ≤ R.locals) : vx_CSW R s args RL 165 yL_worth cL_worth 6 (some .int) [(0, 11, 14, 24), (0, 11, 18, 19)] (Cond.codeWith yL_worth cL_worth 6 (some .int) [(0, 11, 14, 24), (0, 11, 18, 19)] :: gW) rmL_worth 1 6 5 :=
  vx_cwSW 5 hC.2.1 (gi_Sh (gw_t (tb5 (List.mem_of_getElem? (i := 141) rfl)) rfl) (gw_t (tb5 (List.mem_of_getElem? (i := 142) rfl)) rfl) (gw_t (tb1 (List.mem_of_getElem? (i := 0) rfl)) rfl) (gw_t (tb5 (List.mem_of_getElem? (i := 143) rfl)) rfl)) rfl rfl rfl ⟨by decide +kernel, by decide +kernel, by decide +kernel⟩ hR

abbrev rmL_brings : Room := { frames := 9, cells := 1, slots := 6, locals := 147 }
set_option maxHeartbeats 4000000 in
set_option maxRecDepth 100000 in
theorem wL_brings {l : Launch} {D : va_G} {Y : CYs} {E : Nat → Nat} {qo : Nat} {f f2 : Nat → Int64} {σ σ2 : Sta} {a1 : Int32} {a2 : Int32} {k : Int32} (ht : l.stackTraces = false) {o : Int64 ⊕ String} (h : f_X8_brings a1 a2 σ = some (o, σ2)) (ho : (∃ v : Int64, o = .inl v ∧ k = 0 ∧ f2 = vp_updL f 0 v) ∨ (o = .inr eIOB ∧ k = 1 ∧ f = f2)) (sz : Nat) :
    Met l yL_brings (Cond.codeWith yL_brings cL_brings 5 (some .int) [(0, 9, 12, 24)] :: gW) rmL_brings (PcN (loA Y qo f :: wd Y E σ 0 LC) Y D sz [.ref (E 0), .int a1, .int a2, .ref qo]) (QNi (loA Y qo f :: wd Y E σ 0 LC) (loA Y qo f2 :: wd Y E σ2 0 LC) Y D sz k) 1 6 (va_A (loA Y qo f :: wd Y E σ 0 LC) sz) := by
  refine Met_ofNH (Qc := fun sz => QNi (loA Y qo f :: wd Y E σ 0 LC) (loA Y qo f2 :: wd Y E σ2 0 LC) Y D sz k) (by decide) (Nat.le_of_ble_eq_true rfl) (fun p e s m args below meth c hC hb hml hr hlk hSW hP hD htab ls hl => ?_) sz
  have hx := hC.1
  have hA : ∀ q : Nat, s.heap.size ≤ q → va_A (loA Y qo f :: wd Y E σ 0 LC) s.heap.size q := fun q h => Or.inr h
  have hS : va_S (va_A (loA Y qo f :: wd Y E σ 0 LC) s.heap.size) s.heap s.heap [] := va_S.rf
  have hl : lv_has ls 5 [(0, .ref (E 0)), (1, .int a1), (2, .int a2), (3, .ref qo)] := hl
  refine lv_aload_n hx hb dL_brings_0 rfl (lv_at hl 3 rfl) ?_
  refine lv_iconst (v := 0) hx hb dL_brings_1 (by decide) ?_
  refine lv_aload_n hx hb dL_brings_2 rfl (lv_at hl 0 rfl) ?_
  refine lv_iload_n hx hb dL_brings_3 rfl (lv_at hl 1 rfl) ?_
  refine lv_iload_n hx hb dL_brings_4 rfl (lv_at hl 2 rfl) ?_
  rcases ho with ⟨v, rfl, rfl, rfl⟩ | ⟨rfl, rfl, rfl⟩
  · refine n_VL (Rs := [loA Y qo f]) (As := [.int a1, .int a2]) (rest := [.int 0, .ref qo]) hC hb hml hl.1 hSW hP hD hS hA (c_X8_brings ht h) (cw_L_60 hC rfl rfl ⟨(Nat.le_of_ble_eq_true rfl), (Nat.le_of_ble_eq_true rfl)⟩) lc_0 rfl rfl rfl (Nat.le_of_ble_eq_true rfl) dL_brings_5 ⟨(Nat.le_of_ble_eq_true rfl), (Nat.le_of_ble_eq_true rfl)⟩ (fun H locs hP hD hS => ?_)
    refine va_last hx hb hC.2.2.2.1 hP hD hS 0 1 rfl rfl vin0 dL_brings_8 (fun H locs hP hD hS => ?_)
    have hP : va_P D vwCl (loA Y qo (vp_updL f 0 v) :: wd Y E σ2 0 LC) H := hP
    have hD : va_D (va_A (loA Y qo f :: wd Y E σ 0 LC) s.heap.size) (loA Y qo (vp_updL f 0 v) :: wd Y E σ2 0 LC) := hD
    refine lv_goto (tgt := 16) hx hb dL_brings_9 (by decide) ?_
    refine lv_iconst (v := 0) hx hb dL_brings_16 (by decide) ?_
    refine W.widen (k := 1) (n := 6) (Nat.zero_le _) (Nat.zero_le _) ?_
    exact W.iret hx hb hr (fun t ht hW => ⟨⟨0, (), rfl, rfl, by rw [ht]; exact hP, va_K.moved hW.alike hC.2.2.2.1, hD⟩, hS.F ht⟩) hS.2.2 dL_brings_17 hlk
  · refine n_VX (Rs := [loA Y qo f]) (As := [.int a1, .int a2]) (rest := [.int 0, .ref qo]) hC hb hml hl.1 hSW hP hD hS hA (c_X8_brings ht h) (cw_L_60 hC rfl rfl ⟨(Nat.le_of_ble_eq_true rfl), (Nat.le_of_ble_eq_true rfl)⟩) lc_0 rfl rfl rfl (Nat.le_of_ble_eq_true rfl) dL_brings_5 ⟨(Nat.le_of_ble_eq_true rfl), (Nat.le_of_ble_eq_true rfl)⟩ [] ({ startPc := 0, endPc := 9, handlerPc := 12, catchType := 24 }) [] htab (fun z hz => nomatch hz) (by decide) (by decide) (gw_t (tb4 (List.mem_of_getElem? (i := 188) rfl)) rfl) (by decide) rfl (fun q9 H locs hP hD hS => ?_)
    refine lv_astore (lv' := [(4, .ref q9), (0, .ref (E 0)), (1, .int a1), (2, .int a2), (3, .ref qo)]) hx hb dL_brings_12 hl (by decide) rfl (fun ls hl => ?_)
    refine lv_iconst (v := 1) hx hb dL_brings_14 (by decide) ?_
    exact W.iret hx hb hr (fun t ht hW => ⟨⟨1, (), rfl, rfl, by rw [ht]; exact hP, va_K.moved hW.alike hC.2.2.2.1, hD⟩, hS.F ht⟩) hS.2.2 dL_brings_15 hlk
theorem csL_brings {R : Room} {p : Program} {s : State} {m : MethodId} {args : Array Value} {D : va_G} {Y : CYs} (hC : Ctx p s m args RL D Y) (hR : rmL_brings.frames + 1 ≤ R.frames ∧ 8 + (5 + 11) + rmL_brings.locals ≤ R.locals) : vx_CSW R s args RL 168 yL_brings cL_brings 5 (some .int) [(0, 9, 12, 24)] (Cond.codeWith yL_brings cL_brings 5 (some .int) [(0, 9, 12, 24)] :: gW) rmL_brings 1 6 4 :=
  vx_cwSW 4 hC.2.1 (gi_Sh (gw_t (tb5 (List.mem_of_getElem? (i := 149) rfl)) rfl) (gw_t (tb5 (List.mem_of_getElem? (i := 150) rfl)) rfl) (gw_t (tb1 (List.mem_of_getElem? (i := 0) rfl)) rfl) (gw_t (tb5 (List.mem_of_getElem? (i := 151) rfl)) rfl)) rfl rfl rfl ⟨by decide +kernel, by decide +kernel, by decide +kernel⟩ hR

abbrev rmL_chance : Room := { frames := 9, cells := 1, slots := 6, locals := 146 }
set_option maxHeartbeats 4000000 in
set_option maxRecDepth 100000 in
theorem wL_chance {l : Launch} {D : va_G} {Y : CYs} {E : Nat → Nat} {qo : Nat} {f f2 : Nat → Int64} {σ σ2 : Sta} {a1 : Int32} {k : Int32} (ht : l.stackTraces = false) {o : Int32 ⊕ String} (h : f_X8_chance a1 σ = some (o, σ2)) (ho : (∃ v : Int32, o = .inl v ∧ k = 0 ∧ f2 = vp_updL f 0 v.toInt64) ∨ (o = .inr eIOB ∧ k = 1 ∧ f = f2)) (sz : Nat) :
    Met l yL_chance (Cond.codeWith yL_chance cL_chance 4 (some .int) [(0, 9, 12, 24)] :: gW) rmL_chance (PcN (loA Y qo f :: wd Y E σ 0 LC) Y D sz [.ref (E 0), .int a1, .ref qo]) (QNi (loA Y qo f :: wd Y E σ 0 LC) (loA Y qo f2 :: wd Y E σ2 0 LC) Y D sz k) 1 6 (va_A (loA Y qo f :: wd Y E σ 0 LC) sz) := by
  refine Met_ofNH (Qc := fun sz => QNi (loA Y qo f :: wd Y E σ 0 LC) (loA Y qo f2 :: wd Y E σ2 0 LC) Y D sz k) (by decide) (Nat.le_of_ble_eq_true rfl) (fun p e s m args below meth c hC hb hml hr hlk hSW hP hD htab ls hl => ?_) sz
  have hx := hC.1
  have hA : ∀ q : Nat, s.heap.size ≤ q → va_A (loA Y qo f :: wd Y E σ 0 LC) s.heap.size q := fun q h => Or.inr h
  have hS : va_S (va_A (loA Y qo f :: wd Y E σ 0 LC) s.heap.size) s.heap s.heap [] := va_S.rf
  have hl : lv_has ls 4 [(0, .ref (E 0)), (1, .int a1), (2, .ref qo)] := hl
  refine lv_aload_n hx hb dL_chance_0 rfl (lv_at hl 2 rfl) ?_
  refine lv_iconst (v := 0) hx hb dL_chance_1 (by decide) ?_
  refine lv_aload_n hx hb dL_chance_2 rfl (lv_at hl 0 rfl) ?_
  refine lv_iload_n hx hb dL_chance_3 rfl (lv_at hl 1 rfl) ?_
  rcases ho with ⟨v, rfl, rfl, rfl⟩ | ⟨rfl, rfl, rfl⟩
  · refine n_VI (Rs := [loA Y qo f]) (As := [.int a1]) (rest := [.int 0, .ref qo]) hC hb hml hl.1 hSW hP hD hS hA (c_X8_chance ht h) (cw_L_64 hC rfl rfl ⟨(Nat.le_of_ble_eq_true rfl), (Nat.le_of_ble_eq_true rfl)⟩) lc_0 rfl rfl rfl (Nat.le_of_ble_eq_true rfl) dL_chance_4 ⟨(Nat.le_of_ble_eq_true rfl), (Nat.le_of_ble_eq_true rfl)⟩ (fun H locs hP hD hS => ?_)
    refine lv_i2l (v := v.toInt64) hx hb dL_chance_7 rfl ?_
    refine va_last hx hb hC.2.2.2.1 hP hD hS 0 1 rfl rfl vin0 dL_chance_8 (fun H locs hP hD hS => ?_)
    have hP : va_P D vwCl (loA Y qo (vp_updL f 0 v.toInt64) :: wd Y E σ2 0 LC) H := hP
    have hD : va_D (va_A (loA Y qo f :: wd Y E σ 0 LC) s.heap.size) (loA Y qo (vp_updL f 0 v.toInt64) :: wd Y E σ2 0 LC) := hD
    refine lv_goto (tgt := 15) hx hb dL_chance_9 (by decide) ?_
    refine lv_iconst (v := 0) hx hb dL_chance_15 (by decide) ?_
    refine W.widen (k := 1) (n := 6) (Nat.zero_le _) (Nat.zero_le _) ?_
    exact W.iret hx hb hr (fun t ht hW => ⟨⟨0, (), rfl, rfl, by rw [ht]; exact hP, va_K.moved hW.alike hC.2.2.2.1, hD⟩, hS.F ht⟩) hS.2.2 dL_chance_16 hlk
  · refine n_VX (Rs := [loA Y qo f]) (As := [.int a1]) (rest := [.int 0, .ref qo]) hC hb hml hl.1 hSW hP hD hS hA (c_X8_chance ht h) (cw_L_64 hC rfl rfl ⟨(Nat.le_of_ble_eq_true rfl), (Nat.le_of_ble_eq_true rfl)⟩) lc_0 rfl rfl rfl (Nat.le_of_ble_eq_true rfl) dL_chance_4 ⟨(Nat.le_of_ble_eq_true rfl), (Nat.le_of_ble_eq_true rfl)⟩ [] ({ startPc := 0, endPc := 9, handlerPc := 12, catchType := 24 }) [] htab (fun z hz => nomatch hz) (by decide) (by decide) (gw_t (tb4 (List.mem_of_getElem? (i := 188) rfl)) rfl) (by decide) rfl (fun q9 H locs hP hD hS => ?_)
    refine lv_astore_n (lv' := [(3, .ref q9), (0, .ref (E 0)), (1, .int a1), (2, .ref qo)]) hx hb dL_chance_12 rfl hl (by decide) rfl (fun ls hl => ?_)
    refine lv_iconst (v := 1) hx hb dL_chance_13 (by decide) ?_
    exact W.iret hx hb hr (fun t ht hW => ⟨⟨1, (), rfl, rfl, by rw [ht]; exact hP, va_K.moved hW.alike hC.2.2.2.1, hD⟩, hS.F ht⟩) hS.2.2 dL_chance_14 hlk
theorem csL_chance {R : Room} {p : Program} {s : State} {m : MethodId} {args : Array Value} {D : va_G} {Y : CYs} (hC : Ctx p s m args RL D Y) (hR : rmL_chance.frames + 1 ≤ R.frames ∧ 8 + (4 + 11) + rmL_chance.locals ≤ R.locals) : vx_CSW R s args RL 171 yL_chance cL_chance 4 (some .int) [(0, 9, 12, 24)] (Cond.codeWith yL_chance cL_chance 4 (some .int) [(0, 9, 12, 24)] :: gW) rmL_chance 1 6 3 :=
  vx_cwSW 3 hC.2.1 (gi_Sh (gw_t (tb5 (List.mem_of_getElem? (i := 156) rfl)) rfl) (gw_t (tb5 (List.mem_of_getElem? (i := 157) rfl)) rfl) (gw_t (tb1 (List.mem_of_getElem? (i := 0) rfl)) rfl) (gw_t (tb5 (List.mem_of_getElem? (i := 158) rfl)) rfl)) rfl rfl rfl ⟨by decide +kernel, by decide +kernel, by decide +kernel⟩ hR

abbrev rmL_isWorthHaving : Room := { frames := 9, cells := 1, slots := 6, locals := 147 }
set_option maxHeartbeats 4000000 in
set_option maxRecDepth 100000 in
theorem wL_isWorthHaving {l : Launch} {D : va_G} {Y : CYs} {E : Nat → Nat} {qo : Nat} {f f2 : Nat → Int64} {σ σ2 : Sta} {a1 : Int32} {k : Int32} (ht : l.stackTraces = false) {o : Int32 ⊕ String} (h : f_X8_isWorthHaving a1 σ = some (o, σ2)) (ho : (∃ v : Int32, o = .inl v ∧ k = 0 ∧ f2 = vp_updL f 0 (if v = 0 then 0 else 1)) ∨ (o = .inr eIOB ∧ k = 1 ∧ f = f2)) (sz : Nat) :
    Met l yL_isWorthHaving (Cond.codeWith yL_isWorthHaving cL_isWorthHaving 4 (some .int) [(0, 16, 19, 24)] :: gW) rmL_isWorthHaving (PcN (loA Y qo f :: wd Y E σ 0 LC) Y D sz [.ref (E 0), .int a1, .ref qo]) (QNi (loA Y qo f :: wd Y E σ 0 LC) (loA Y qo f2 :: wd Y E σ2 0 LC) Y D sz k) 1 6 (va_A (loA Y qo f :: wd Y E σ 0 LC) sz) := by
  refine Met_ofNH (Qc := fun sz => QNi (loA Y qo f :: wd Y E σ 0 LC) (loA Y qo f2 :: wd Y E σ2 0 LC) Y D sz k) (by decide) (Nat.le_of_ble_eq_true rfl) (fun p e s m args below meth c hC hb hml hr hlk hSW hP hD htab ls hl => ?_) sz
  have hx := hC.1
  have hA : ∀ q : Nat, s.heap.size ≤ q → va_A (loA Y qo f :: wd Y E σ 0 LC) s.heap.size q := fun q h => Or.inr h
  have hS : va_S (va_A (loA Y qo f :: wd Y E σ 0 LC) s.heap.size) s.heap s.heap [] := va_S.rf
  have hl : lv_has ls 4 [(0, .ref (E 0)), (1, .int a1), (2, .ref qo)] := hl
  refine lv_aload_n hx hb dL_isWorthHaving_0 rfl (lv_at hl 2 rfl) ?_
  refine lv_iconst (v := 0) hx hb dL_isWorthHaving_1 (by decide) ?_
  refine lv_aload_n hx hb dL_isWorthHaving_2 rfl (lv_at hl 0 rfl) ?_
  refine lv_iload_n hx hb dL_isWorthHaving_3 rfl (lv_at hl 1 rfl) ?_
  rcases ho with ⟨v, rfl, rfl, rfl⟩ | ⟨rfl, rfl, rfl⟩
  · refine n_VI (Rs := [loA Y qo f]) (As := [.int a1]) (rest := [.int 0, .ref qo]) hC hb hml hl.1 hSW hP hD hS hA (c_X8_isWorthHaving ht h) (cw_L_67 hC rfl rfl ⟨(Nat.le_of_ble_eq_true rfl), (Nat.le_of_ble_eq_true rfl)⟩) lc_0 rfl rfl rfl (Nat.le_of_ble_eq_true rfl) dL_isWorthHaving_4 ⟨(Nat.le_of_ble_eq_true rfl), (Nat.le_of_ble_eq_true rfl)⟩ (fun H locs hP hD hS => ?_)
    refine lv_if_eq (tgt := 14) hx hb dL_isWorthHaving_7 (by decide) (fun c1 => ?_) (fun c1 => ?_)
    · refine lv_lconst (v := 0) hx hb dL_isWorthHaving_14 (by decide) ?_
      refine va_last hx hb hC.2.2.2.1 hP hD hS 0 1 rfl rfl vin0 dL_isWorthHaving_15 (fun H locs hP hD hS => ?_)
      have hP : va_P D vwCl (loA Y qo (vp_updL f 0 0) :: wd Y E σ2 0 LC) H := hP
      have hD : va_D (va_A (loA Y qo f :: wd Y E σ 0 LC) s.heap.size) (loA Y qo (vp_updL f 0 0) :: wd Y E σ2 0 LC) := hD
      have hv : (if v = 0 then (0 : Int64) else 1) = 0 := if_pos c1
      rw [← hv] at hP hD
      refine lv_goto (tgt := 22) hx hb dL_isWorthHaving_16 (by decide) ?_
      refine lv_iconst (v := 0) hx hb dL_isWorthHaving_22 (by decide) ?_
      refine W.widen (k := 1) (n := 6) (Nat.zero_le _) (Nat.zero_le _) ?_
      exact W.iret hx hb hr (fun t ht hW => ⟨⟨0, (), rfl, rfl, by rw [ht]; exact hP, va_K.moved hW.alike hC.2.2.2.1, hD⟩, hS.F ht⟩) hS.2.2 dL_isWorthHaving_23 hlk
    · refine lv_lconst (v := 1) hx hb dL_isWorthHaving_10 (by decide) ?_
      refine lv_goto (tgt := 15) hx hb dL_isWorthHaving_11 (by decide) ?_
      refine va_last hx hb hC.2.2.2.1 hP hD hS 0 1 rfl rfl vin0 dL_isWorthHaving_15 (fun H locs hP hD hS => ?_)
      have hP : va_P D vwCl (loA Y qo (vp_updL f 0 1) :: wd Y E σ2 0 LC) H := hP
      have hD : va_D (va_A (loA Y qo f :: wd Y E σ 0 LC) s.heap.size) (loA Y qo (vp_updL f 0 1) :: wd Y E σ2 0 LC) := hD
      have hv : (if v = 0 then (0 : Int64) else 1) = 1 := if_neg c1
      rw [← hv] at hP hD
      refine lv_goto (tgt := 22) hx hb dL_isWorthHaving_16 (by decide) ?_
      refine lv_iconst (v := 0) hx hb dL_isWorthHaving_22 (by decide) ?_
      refine W.widen (k := 1) (n := 6) (Nat.zero_le _) (Nat.zero_le _) ?_
      exact W.iret hx hb hr (fun t ht hW => ⟨⟨0, (), rfl, rfl, by rw [ht]; exact hP, va_K.moved hW.alike hC.2.2.2.1, hD⟩, hS.F ht⟩) hS.2.2 dL_isWorthHaving_23 hlk
  · refine n_VX (Rs := [loA Y qo f]) (As := [.int a1]) (rest := [.int 0, .ref qo]) hC hb hml hl.1 hSW hP hD hS hA (c_X8_isWorthHaving ht h) (cw_L_67 hC rfl rfl ⟨(Nat.le_of_ble_eq_true rfl), (Nat.le_of_ble_eq_true rfl)⟩) lc_0 rfl rfl rfl (Nat.le_of_ble_eq_true rfl) dL_isWorthHaving_4 ⟨(Nat.le_of_ble_eq_true rfl), (Nat.le_of_ble_eq_true rfl)⟩ [] ({ startPc := 0, endPc := 16, handlerPc := 19, catchType := 24 }) [] htab (fun z hz => nomatch hz) (by decide) (by decide) (gw_t (tb4 (List.mem_of_getElem? (i := 188) rfl)) rfl) (by decide) rfl (fun q9 H locs hP hD hS => ?_)
    refine lv_astore_n (lv' := [(3, .ref q9), (0, .ref (E 0)), (1, .int a1), (2, .ref qo)]) hx hb dL_isWorthHaving_19 rfl hl (by decide) rfl (fun ls hl => ?_)
    refine lv_iconst (v := 1) hx hb dL_isWorthHaving_20 (by decide) ?_
    exact W.iret hx hb hr (fun t ht hW => ⟨⟨1, (), rfl, rfl, by rw [ht]; exact hP, va_K.moved hW.alike hC.2.2.2.1, hD⟩, hS.F ht⟩) hS.2.2 dL_isWorthHaving_21 hlk
theorem csL_isWorthHaving {R : Room} {p : Program} {s : State} {m : MethodId} {args : Array Value} {D : va_G} {Y : CYs} (hC : Ctx p s m args RL D Y) (hR : rmL_isWorthHaving.frames + 1 ≤ R.frames ∧ 8 + (4 + 11) + rmL_isWorthHaving.locals ≤ R.locals) : vx_CSW R s args RL 174 yL_isWorthHaving cL_isWorthHaving 4 (some .int) [(0, 16, 19, 24)] (Cond.codeWith yL_isWorthHaving cL_isWorthHaving 4 (some .int) [(0, 16, 19, 24)] :: gW) rmL_isWorthHaving 1 6 3 :=
  vx_cwSW 3 hC.2.1 (gi_Sh (gw_t (tb5 (List.mem_of_getElem? (i := 163) rfl)) rfl) (gw_t (tb5 (List.mem_of_getElem? (i := 164) rfl)) rfl) (gw_t (tb1 (List.mem_of_getElem? (i := 0) rfl)) rfl) (gw_t (tb5 (List.mem_of_getElem? (i := 165) rfl)) rfl)) rfl rfl rfl ⟨by decide +kernel, by decide +kernel, by decide +kernel⟩ hR

abbrev rmL_sweep : Room := { frames := 9, cells := 1, slots := 6, locals := 174 }
set_option maxHeartbeats 4000000 in
set_option maxRecDepth 100000 in
theorem wL_sweep {l : Launch} {D : va_G} {Y : CYs} {E : Nat → Nat} {qo : Nat} {f f2 : Nat → Int64} {σ σ2 : Sta} {a1 : Int32} {a2 : Int32} {a3 : Int32} {a4 : Int32} {k : Int32} (ht : l.stackTraces = false) {o : Int32 ⊕ String} (h : f_X8_sweep a1 a2 a3 a4 σ = some (o, σ2)) (ho : (∃ v : Int32, o = .inl v ∧ k = 0 ∧ f2 = vp_updL f 0 v.toInt64) ∨ (o = .inr eIOB ∧ k = 1 ∧ f = f2) ∨ (o = .inr eIAE ∧ k = 2 ∧ f = f2) ∨ (o = .inr eISE ∧ k = 3 ∧ f = f2)) (sz : Nat) :
    Met l yL_sweep (Cond.codeWith yL_sweep cL_sweep 7 (some .int) [(0, 14, 17, 24), (0, 14, 21, 19), (0, 14, 25, 13)] :: gW) rmL_sweep (PcN (loA Y qo f :: wd Y E σ 0 LC) Y D sz [.ref (E 0), .int a1, .int a2, .int a3, .int a4, .ref qo]) (QNi (loA Y qo f :: wd Y E σ 0 LC) (loA Y qo f2 :: wd Y E σ2 0 LC) Y D sz k) 1 6 (va_A (loA Y qo f :: wd Y E σ 0 LC) sz) := by
  refine Met_ofNH (Qc := fun sz => QNi (loA Y qo f :: wd Y E σ 0 LC) (loA Y qo f2 :: wd Y E σ2 0 LC) Y D sz k) (by decide) (Nat.le_of_ble_eq_true rfl) (fun p e s m args below meth c hC hb hml hr hlk hSW hP hD htab ls hl => ?_) sz
  have hx := hC.1
  have hA : ∀ q : Nat, s.heap.size ≤ q → va_A (loA Y qo f :: wd Y E σ 0 LC) s.heap.size q := fun q h => Or.inr h
  have hS : va_S (va_A (loA Y qo f :: wd Y E σ 0 LC) s.heap.size) s.heap s.heap [] := va_S.rf
  have hl : lv_has ls 7 [(0, .ref (E 0)), (1, .int a1), (2, .int a2), (3, .int a3), (4, .int a4), (5, .ref qo)] := hl
  refine lv_aload hx hb dL_sweep_0 (lv_at hl 5 rfl) ?_
  refine lv_iconst (v := 0) hx hb dL_sweep_2 (by decide) ?_
  refine lv_aload_n hx hb dL_sweep_3 rfl (lv_at hl 0 rfl) ?_
  refine lv_iload_n hx hb dL_sweep_4 rfl (lv_at hl 1 rfl) ?_
  refine lv_iload_n hx hb dL_sweep_5 rfl (lv_at hl 2 rfl) ?_
  refine lv_iload_n hx hb dL_sweep_6 rfl (lv_at hl 3 rfl) ?_
  refine lv_iload hx hb dL_sweep_7 (lv_at hl 4 rfl) ?_
  rcases ho with ⟨v, rfl, rfl, rfl⟩ | ⟨rfl, rfl, rfl⟩ | ⟨rfl, rfl, rfl⟩ | ⟨rfl, rfl, rfl⟩
  · refine n_VI (Rs := [loA Y qo f]) (As := [.int a1, .int a2, .int a3, .int a4]) (rest := [.int 0, .ref qo]) hC hb hml hl.1 hSW hP hD hS hA (c_X8_sweep ht h) (cw_L_71 hC rfl rfl ⟨(Nat.le_of_ble_eq_true rfl), (Nat.le_of_ble_eq_true rfl)⟩) lc_0 rfl rfl rfl (Nat.le_of_ble_eq_true rfl) dL_sweep_9 ⟨(Nat.le_of_ble_eq_true rfl), (Nat.le_of_ble_eq_true rfl)⟩ (fun H locs hP hD hS => ?_)
    refine lv_i2l (v := v.toInt64) hx hb dL_sweep_12 rfl ?_
    refine va_last hx hb hC.2.2.2.1 hP hD hS 0 1 rfl rfl vin0 dL_sweep_13 (fun H locs hP hD hS => ?_)
    have hP : va_P D vwCl (loA Y qo (vp_updL f 0 v.toInt64) :: wd Y E σ2 0 LC) H := hP
    have hD : va_D (va_A (loA Y qo f :: wd Y E σ 0 LC) s.heap.size) (loA Y qo (vp_updL f 0 v.toInt64) :: wd Y E σ2 0 LC) := hD
    refine lv_goto (tgt := 29) hx hb dL_sweep_14 (by decide) ?_
    refine lv_iconst (v := 0) hx hb dL_sweep_29 (by decide) ?_
    refine W.widen (k := 1) (n := 6) (Nat.zero_le _) (Nat.zero_le _) ?_
    exact W.iret hx hb hr (fun t ht hW => ⟨⟨0, (), rfl, rfl, by rw [ht]; exact hP, va_K.moved hW.alike hC.2.2.2.1, hD⟩, hS.F ht⟩) hS.2.2 dL_sweep_30 hlk
  · refine n_VX (Rs := [loA Y qo f]) (As := [.int a1, .int a2, .int a3, .int a4]) (rest := [.int 0, .ref qo]) hC hb hml hl.1 hSW hP hD hS hA (c_X8_sweep ht h) (cw_L_71 hC rfl rfl ⟨(Nat.le_of_ble_eq_true rfl), (Nat.le_of_ble_eq_true rfl)⟩) lc_0 rfl rfl rfl (Nat.le_of_ble_eq_true rfl) dL_sweep_9 ⟨(Nat.le_of_ble_eq_true rfl), (Nat.le_of_ble_eq_true rfl)⟩ [] ({ startPc := 0, endPc := 14, handlerPc := 17, catchType := 24 }) [{ startPc := 0, endPc := 14, handlerPc := 21, catchType := 19 }, { startPc := 0, endPc := 14, handlerPc := 25, catchType := 13 }] htab (fun z hz => nomatch hz) (by decide) (by decide) (gw_t (tb4 (List.mem_of_getElem? (i := 188) rfl)) rfl) (by decide) rfl (fun q9 H locs hP hD hS => ?_)
    refine lv_astore (lv' := [(6, .ref q9), (0, .ref (E 0)), (1, .int a1), (2, .int a2), (3, .int a3), (4, .int a4), (5, .ref qo)]) hx hb dL_sweep_17 hl (by decide) rfl (fun ls hl => ?_)
    refine lv_iconst (v := 1) hx hb dL_sweep_19 (by decide) ?_
    exact W.iret hx hb hr (fun t ht hW => ⟨⟨1, (), rfl, rfl, by rw [ht]; exact hP, va_K.moved hW.alike hC.2.2.2.1, hD⟩, hS.F ht⟩) hS.2.2 dL_sweep_20 hlk
  · refine n_VX (Rs := [loA Y qo f]) (As := [.int a1, .int a2, .int a3, .int a4]) (rest := [.int 0, .ref qo]) hC hb hml hl.1 hSW hP hD hS hA (c_X8_sweep ht h) (cw_L_71 hC rfl rfl ⟨(Nat.le_of_ble_eq_true rfl), (Nat.le_of_ble_eq_true rfl)⟩) lc_0 rfl rfl rfl (Nat.le_of_ble_eq_true rfl) dL_sweep_9 ⟨(Nat.le_of_ble_eq_true rfl), (Nat.le_of_ble_eq_true rfl)⟩ [{ startPc := 0, endPc := 14, handlerPc := 17, catchType := 24 }] ({ startPc := 0, endPc := 14, handlerPc := 21, catchType := 19 }) [{ startPc := 0, endPc := 14, handlerPc := 25, catchType := 13 }] htab (fun z hz => by
      simp only [List.mem_cons, List.not_mem_nil, or_false] at hz
      rcases hz with rfl
      · exact ⟨by decide, eIOB, (gw_t (tb4 (List.mem_of_getElem? (i := 188) rfl)) rfl), by decide⟩) (by decide) (by decide) (gw_t (tb4 (List.mem_of_getElem? (i := 160) rfl)) rfl) (by decide) rfl (fun q9 H locs hP hD hS => ?_)
    refine lv_astore (lv' := [(6, .ref q9), (0, .ref (E 0)), (1, .int a1), (2, .int a2), (3, .int a3), (4, .int a4), (5, .ref qo)]) hx hb dL_sweep_21 hl (by decide) rfl (fun ls hl => ?_)
    refine lv_iconst (v := 2) hx hb dL_sweep_23 (by decide) ?_
    exact W.iret hx hb hr (fun t ht hW => ⟨⟨2, (), rfl, rfl, by rw [ht]; exact hP, va_K.moved hW.alike hC.2.2.2.1, hD⟩, hS.F ht⟩) hS.2.2 dL_sweep_24 hlk
  · refine n_VX (Rs := [loA Y qo f]) (As := [.int a1, .int a2, .int a3, .int a4]) (rest := [.int 0, .ref qo]) hC hb hml hl.1 hSW hP hD hS hA (c_X8_sweep ht h) (cw_L_71 hC rfl rfl ⟨(Nat.le_of_ble_eq_true rfl), (Nat.le_of_ble_eq_true rfl)⟩) lc_0 rfl rfl rfl (Nat.le_of_ble_eq_true rfl) dL_sweep_9 ⟨(Nat.le_of_ble_eq_true rfl), (Nat.le_of_ble_eq_true rfl)⟩ [{ startPc := 0, endPc := 14, handlerPc := 17, catchType := 24 }, { startPc := 0, endPc := 14, handlerPc := 21, catchType := 19 }] ({ startPc := 0, endPc := 14, handlerPc := 25, catchType := 13 }) [] htab (fun z hz => by
      simp only [List.mem_cons, List.not_mem_nil, or_false] at hz
      rcases hz with rfl | rfl
      · exact ⟨by decide, eIOB, (gw_t (tb4 (List.mem_of_getElem? (i := 188) rfl)) rfl), by decide⟩
      · exact ⟨by decide, eIAE, (gw_t (tb4 (List.mem_of_getElem? (i := 160) rfl)) rfl), by decide⟩) (by decide) (by decide) (gw_t (tb4 (List.mem_of_getElem? (i := 80) rfl)) rfl) (by decide) rfl (fun q9 H locs hP hD hS => ?_)
    refine lv_astore (lv' := [(6, .ref q9), (0, .ref (E 0)), (1, .int a1), (2, .int a2), (3, .int a3), (4, .int a4), (5, .ref qo)]) hx hb dL_sweep_25 hl (by decide) rfl (fun ls hl => ?_)
    refine lv_iconst (v := 3) hx hb dL_sweep_27 (by decide) ?_
    exact W.iret hx hb hr (fun t ht hW => ⟨⟨3, (), rfl, rfl, by rw [ht]; exact hP, va_K.moved hW.alike hC.2.2.2.1, hD⟩, hS.F ht⟩) hS.2.2 dL_sweep_28 hlk
theorem csL_sweep {R : Room} {p : Program} {s : State} {m : MethodId} {args : Array Value} {D : va_G} {Y : CYs} (hC : Ctx p s m args RL D Y) (hR : rmL_sweep.frames + 1 ≤ R.frames ∧ 8 + (7 + 11) + rmL_sweep.locals ≤ R.locals) : vx_CSW R s args RL 177 yL_sweep cL_sweep 7 (some .int) [(0, 14, 17, 24), (0, 14, 21, 19), (0, 14, 25, 13)] (Cond.codeWith yL_sweep cL_sweep 7 (some .int) [(0, 14, 17, 24), (0, 14, 21, 19), (0, 14, 25, 13)] :: gW) rmL_sweep 1 6 6 :=
  vx_cwSW 6 hC.2.1 (gi_Sh (gw_t (tb5 (List.mem_of_getElem? (i := 174) rfl)) rfl) (gw_t (tb5 (List.mem_of_getElem? (i := 175) rfl)) rfl) (gw_t (tb1 (List.mem_of_getElem? (i := 0) rfl)) rfl) (gw_t (tb5 (List.mem_of_getElem? (i := 176) rfl)) rfl)) rfl rfl rfl ⟨by decide +kernel, by decide +kernel, by decide +kernel⟩ hR

abbrev rmL_mix : Room := { frames := 9, cells := 1, slots := 6, locals := 149 }
set_option maxHeartbeats 4000000 in
set_option maxRecDepth 100000 in
theorem wL_mix {l : Launch} {D : va_G} {Y : CYs} {E : Nat → Nat} {qo : Nat} {f f2 : Nat → Int64} {σ σ2 : Sta} {a1 : Int32} {a2 : Int32} {a3 : Int32} {a4 : Int32} {k : Int32} (ht : l.stackTraces = false) {o : Int64 ⊕ String} (h : f_X8_mix a1 a2 a3 a4 σ = some (o, σ2)) (ho : (∃ v : Int64, o = .inl v ∧ k = 0 ∧ f2 = vp_updL f 0 v) ∨ (o = .inr eIOB ∧ k = 1 ∧ f = f2) ∨ (o = .inr eIAE ∧ k = 2 ∧ f = f2)) (sz : Nat) :
    Met l yL_mix (Cond.codeWith yL_mix cL_mix 7 (some .int) [(0, 13, 16, 24), (0, 13, 20, 19)] :: gW) rmL_mix (PcN (loA Y qo f :: wd Y E σ 0 LC) Y D sz [.ref (E 0), .int a1, .int a2, .int a3, .int a4, .ref qo]) (QNi (loA Y qo f :: wd Y E σ 0 LC) (loA Y qo f2 :: wd Y E σ2 0 LC) Y D sz k) 1 6 (va_A (loA Y qo f :: wd Y E σ 0 LC) sz) := by
  refine Met_ofNH (Qc := fun sz => QNi (loA Y qo f :: wd Y E σ 0 LC) (loA Y qo f2 :: wd Y E σ2 0 LC) Y D sz k) (by decide) (Nat.le_of_ble_eq_true rfl) (fun p e s m args below meth c hC hb hml hr hlk hSW hP hD htab ls hl => ?_) sz
  have hx := hC.1
  have hA : ∀ q : Nat, s.heap.size ≤ q → va_A (loA Y qo f :: wd Y E σ 0 LC) s.heap.size q := fun q h => Or.inr h
  have hS : va_S (va_A (loA Y qo f :: wd Y E σ 0 LC) s.heap.size) s.heap s.heap [] := va_S.rf
  have hl : lv_has ls 7 [(0, .ref (E 0)), (1, .int a1), (2, .int a2), (3, .int a3), (4, .int a4), (5, .ref qo)] := hl
  refine lv_aload hx hb dL_mix_0 (lv_at hl 5 rfl) ?_
  refine lv_iconst (v := 0) hx hb dL_mix_2 (by decide) ?_
  refine lv_aload_n hx hb dL_mix_3 rfl (lv_at hl 0 rfl) ?_
  refine lv_iload_n hx hb dL_mix_4 rfl (lv_at hl 1 rfl) ?_
  refine lv_iload_n hx hb dL_mix_5 rfl (lv_at hl 2 rfl) ?_
  refine lv_iload_n hx hb dL_mix_6 rfl (lv_at hl 3 rfl) ?_
  refine lv_iload hx hb dL_mix_7 (lv_at hl 4 rfl) ?_
  rcases ho with ⟨v, rfl, rfl, rfl⟩ | ⟨rfl, rfl, rfl⟩ | ⟨rfl, rfl, rfl⟩
  · refine n_VL (Rs := [loA Y qo f]) (As := [.int a1, .int a2, .int a3, .int a4]) (rest := [.int 0, .ref qo]) hC hb hml hl.1 hSW hP hD hS hA (c_X8_mix ht h) (cw_L_75 hC rfl rfl ⟨(Nat.le_of_ble_eq_true rfl), (Nat.le_of_ble_eq_true rfl)⟩) lc_0 rfl rfl rfl (Nat.le_of_ble_eq_true rfl) dL_mix_9 ⟨(Nat.le_of_ble_eq_true rfl), (Nat.le_of_ble_eq_true rfl)⟩ (fun H locs hP hD hS => ?_)
    refine va_last hx hb hC.2.2.2.1 hP hD hS 0 1 rfl rfl vin0 dL_mix_12 (fun H locs hP hD hS => ?_)
    have hP : va_P D vwCl (loA Y qo (vp_updL f 0 v) :: wd Y E σ2 0 LC) H := hP
    have hD : va_D (va_A (loA Y qo f :: wd Y E σ 0 LC) s.heap.size) (loA Y qo (vp_updL f 0 v) :: wd Y E σ2 0 LC) := hD
    refine lv_goto (tgt := 24) hx hb dL_mix_13 (by decide) ?_
    refine lv_iconst (v := 0) hx hb dL_mix_24 (by decide) ?_
    refine W.widen (k := 1) (n := 6) (Nat.zero_le _) (Nat.zero_le _) ?_
    exact W.iret hx hb hr (fun t ht hW => ⟨⟨0, (), rfl, rfl, by rw [ht]; exact hP, va_K.moved hW.alike hC.2.2.2.1, hD⟩, hS.F ht⟩) hS.2.2 dL_mix_25 hlk
  · refine n_VX (Rs := [loA Y qo f]) (As := [.int a1, .int a2, .int a3, .int a4]) (rest := [.int 0, .ref qo]) hC hb hml hl.1 hSW hP hD hS hA (c_X8_mix ht h) (cw_L_75 hC rfl rfl ⟨(Nat.le_of_ble_eq_true rfl), (Nat.le_of_ble_eq_true rfl)⟩) lc_0 rfl rfl rfl (Nat.le_of_ble_eq_true rfl) dL_mix_9 ⟨(Nat.le_of_ble_eq_true rfl), (Nat.le_of_ble_eq_true rfl)⟩ [] ({ startPc := 0, endPc := 13, handlerPc := 16, catchType := 24 }) [{ startPc := 0, endPc := 13, handlerPc := 20, catchType := 19 }] htab (fun z hz => nomatch hz) (by decide) (by decide) (gw_t (tb4 (List.mem_of_getElem? (i := 188) rfl)) rfl) (by decide) rfl (fun q9 H locs hP hD hS => ?_)
    refine lv_astore (lv' := [(6, .ref q9), (0, .ref (E 0)), (1, .int a1), (2, .int a2), (3, .int a3), (4, .int a4), (5, .ref qo)]) hx hb dL_mix_16 hl (by decide) rfl (fun ls hl => ?_)
    refine lv_iconst (v := 1) hx hb dL_mix_18 (by decide) ?_
    exact W.iret hx hb hr (fun t ht hW => ⟨⟨1, (), rfl, rfl, by rw [ht]; exact hP, va_K.moved hW.alike hC.2.2.2.1, hD⟩, hS.F ht⟩) hS.2.2 dL_mix_19 hlk
  · refine n_VX (Rs := [loA Y qo f]) (As := [.int a1, .int a2, .int a3, .int a4]) (rest := [.int 0, .ref qo]) hC hb hml hl.1 hSW hP hD hS hA (c_X8_mix ht h) (cw_L_75 hC rfl rfl ⟨(Nat.le_of_ble_eq_true rfl), (Nat.le_of_ble_eq_true rfl)⟩) lc_0 rfl rfl rfl (Nat.le_of_ble_eq_true rfl) dL_mix_9 ⟨(Nat.le_of_ble_eq_true rfl), (Nat.le_of_ble_eq_true rfl)⟩ [{ startPc := 0, endPc := 13, handlerPc := 16, catchType := 24 }] ({ startPc := 0, endPc := 13, handlerPc := 20, catchType := 19 }) [] htab (fun z hz => by
      simp only [List.mem_cons, List.not_mem_nil, or_false] at hz
      rcases hz with rfl
      · exact ⟨by decide, eIOB, (gw_t (tb4 (List.mem_of_getElem? (i := 188) rfl)) rfl), by decide⟩) (by decide) (by decide) (gw_t (tb4 (List.mem_of_getElem? (i := 160) rfl)) rfl) (by decide) rfl (fun q9 H locs hP hD hS => ?_)
    refine lv_astore (lv' := [(6, .ref q9), (0, .ref (E 0)), (1, .int a1), (2, .int a2), (3, .int a3), (4, .int a4), (5, .ref qo)]) hx hb dL_mix_20 hl (by decide) rfl (fun ls hl => ?_)
    refine lv_iconst (v := 2) hx hb dL_mix_22 (by decide) ?_
    exact W.iret hx hb hr (fun t ht hW => ⟨⟨2, (), rfl, rfl, by rw [ht]; exact hP, va_K.moved hW.alike hC.2.2.2.1, hD⟩, hS.F ht⟩) hS.2.2 dL_mix_23 hlk
theorem csL_mix {R : Room} {p : Program} {s : State} {m : MethodId} {args : Array Value} {D : va_G} {Y : CYs} (hC : Ctx p s m args RL D Y) (hR : rmL_mix.frames + 1 ≤ R.frames ∧ 8 + (7 + 11) + rmL_mix.locals ≤ R.locals) : vx_CSW R s args RL 181 yL_mix cL_mix 7 (some .int) [(0, 13, 16, 24), (0, 13, 20, 19)] (Cond.codeWith yL_mix cL_mix 7 (some .int) [(0, 13, 16, 24), (0, 13, 20, 19)] :: gW) rmL_mix 1 6 6 :=
  vx_cwSW 6 hC.2.1 (gi_Sh (gw_t (tb5 (List.mem_of_getElem? (i := 190) rfl)) rfl) (gw_t (tb5 (List.mem_of_getElem? (i := 191) rfl)) rfl) (gw_t (tb1 (List.mem_of_getElem? (i := 0) rfl)) rfl) (gw_t (tb5 (List.mem_of_getElem? (i := 192) rfl)) rfl)) rfl rfl rfl ⟨by decide +kernel, by decide +kernel, by decide +kernel⟩ hR

abbrev rmL_bestMix : Room := { frames := 9, cells := 1, slots := 6, locals := 157 }
set_option maxHeartbeats 4000000 in
set_option maxRecDepth 100000 in
theorem wL_bestMix {l : Launch} {D : va_G} {Y : CYs} {E : Nat → Nat} {qo : Nat} {f f2 : Nat → Int64} {σ σ2 : Sta} {a1 : Int32} {a2 : Int32} {a3 : Int64} {k : Int32} (ht : l.stackTraces = false) {o : Int32 ⊕ String} (h : f_X8_bestMix a1 a2 a3 σ = some (o, σ2)) (ho : (∃ v : Int32, o = .inl v ∧ k = 0 ∧ f2 = vp_updL f 0 v.toInt64) ∨ (o = .inr eIOB ∧ k = 1 ∧ f = f2)) (sz : Nat) :
    Met l yL_bestMix (Cond.codeWith yL_bestMix cL_bestMix 7 (some .int) [(0, 12, 15, 24)] :: gW) rmL_bestMix (PcN (loA Y qo f :: wd Y E σ 0 LC) Y D sz [.ref (E 0), .int a1, .int a2, .long a3, .ref qo]) (QNi (loA Y qo f :: wd Y E σ 0 LC) (loA Y qo f2 :: wd Y E σ2 0 LC) Y D sz k) 1 6 (va_A (loA Y qo f :: wd Y E σ 0 LC) sz) := by
  refine Met_ofNH (Qc := fun sz => QNi (loA Y qo f :: wd Y E σ 0 LC) (loA Y qo f2 :: wd Y E σ2 0 LC) Y D sz k) (by decide) (Nat.le_of_ble_eq_true rfl) (fun p e s m args below meth c hC hb hml hr hlk hSW hP hD htab ls hl => ?_) sz
  have hx := hC.1
  have hA : ∀ q : Nat, s.heap.size ≤ q → va_A (loA Y qo f :: wd Y E σ 0 LC) s.heap.size q := fun q h => Or.inr h
  have hS : va_S (va_A (loA Y qo f :: wd Y E σ 0 LC) s.heap.size) s.heap s.heap [] := va_S.rf
  have hl : lv_has ls 7 [(0, .ref (E 0)), (1, .int a1), (2, .int a2), (3, .long a3), (5, .ref qo)] := hl
  refine lv_aload hx hb dL_bestMix_0 (lv_at hl 4 rfl) ?_
  refine lv_iconst (v := 0) hx hb dL_bestMix_2 (by decide) ?_
  refine lv_aload_n hx hb dL_bestMix_3 rfl (lv_at hl 0 rfl) ?_
  refine lv_iload_n hx hb dL_bestMix_4 rfl (lv_at hl 1 rfl) ?_
  refine lv_iload_n hx hb dL_bestMix_5 rfl (lv_at hl 2 rfl) ?_
  refine lv_lload_n hx hb dL_bestMix_6 rfl (lv_at hl 3 rfl) ?_
  rcases ho with ⟨v, rfl, rfl, rfl⟩ | ⟨rfl, rfl, rfl⟩
  · refine n_VI (Rs := [loA Y qo f]) (As := [.int a1, .int a2, .long a3]) (rest := [.int 0, .ref qo]) hC hb hml hl.1 hSW hP hD hS hA (c_X8_bestMix ht h) (cw_L_79 hC rfl rfl ⟨(Nat.le_of_ble_eq_true rfl), (Nat.le_of_ble_eq_true rfl)⟩) lc_0 rfl rfl rfl (Nat.le_of_ble_eq_true rfl) dL_bestMix_7 ⟨(Nat.le_of_ble_eq_true rfl), (Nat.le_of_ble_eq_true rfl)⟩ (fun H locs hP hD hS => ?_)
    refine lv_i2l (v := v.toInt64) hx hb dL_bestMix_10 rfl ?_
    refine va_last hx hb hC.2.2.2.1 hP hD hS 0 1 rfl rfl vin0 dL_bestMix_11 (fun H locs hP hD hS => ?_)
    have hP : va_P D vwCl (loA Y qo (vp_updL f 0 v.toInt64) :: wd Y E σ2 0 LC) H := hP
    have hD : va_D (va_A (loA Y qo f :: wd Y E σ 0 LC) s.heap.size) (loA Y qo (vp_updL f 0 v.toInt64) :: wd Y E σ2 0 LC) := hD
    refine lv_goto (tgt := 19) hx hb dL_bestMix_12 (by decide) ?_
    refine lv_iconst (v := 0) hx hb dL_bestMix_19 (by decide) ?_
    refine W.widen (k := 1) (n := 6) (Nat.zero_le _) (Nat.zero_le _) ?_
    exact W.iret hx hb hr (fun t ht hW => ⟨⟨0, (), rfl, rfl, by rw [ht]; exact hP, va_K.moved hW.alike hC.2.2.2.1, hD⟩, hS.F ht⟩) hS.2.2 dL_bestMix_20 hlk
  · refine n_VX (Rs := [loA Y qo f]) (As := [.int a1, .int a2, .long a3]) (rest := [.int 0, .ref qo]) hC hb hml hl.1 hSW hP hD hS hA (c_X8_bestMix ht h) (cw_L_79 hC rfl rfl ⟨(Nat.le_of_ble_eq_true rfl), (Nat.le_of_ble_eq_true rfl)⟩) lc_0 rfl rfl rfl (Nat.le_of_ble_eq_true rfl) dL_bestMix_7 ⟨(Nat.le_of_ble_eq_true rfl), (Nat.le_of_ble_eq_true rfl)⟩ [] ({ startPc := 0, endPc := 12, handlerPc := 15, catchType := 24 }) [] htab (fun z hz => nomatch hz) (by decide) (by decide) (gw_t (tb4 (List.mem_of_getElem? (i := 188) rfl)) rfl) (by decide) rfl (fun q9 H locs hP hD hS => ?_)
    refine lv_astore (lv' := [(6, .ref q9), (0, .ref (E 0)), (1, .int a1), (2, .int a2), (3, .long a3), (5, .ref qo)]) hx hb dL_bestMix_15 hl (by decide) rfl (fun ls hl => ?_)
    refine lv_iconst (v := 1) hx hb dL_bestMix_17 (by decide) ?_
    exact W.iret hx hb hr (fun t ht hW => ⟨⟨1, (), rfl, rfl, by rw [ht]; exact hP, va_K.moved hW.alike hC.2.2.2.1, hD⟩, hS.F ht⟩) hS.2.2 dL_bestMix_18 hlk
theorem csL_bestMix {R : Room} {p : Program} {s : State} {m : MethodId} {args : Array Value} {D : va_G} {Y : CYs} (hC : Ctx p s m args RL D Y) (hR : rmL_bestMix.frames + 1 ≤ R.frames ∧ 8 + (7 + 11) + rmL_bestMix.locals ≤ R.locals) : vx_CSW R s args RL 186 yL_bestMix cL_bestMix 7 (some .int) [(0, 12, 15, 24)] (Cond.codeWith yL_bestMix cL_bestMix 7 (some .int) [(0, 12, 15, 24)] :: gW) rmL_bestMix 1 6 5 :=
  vx_cwSW 5 hC.2.1 (gi_Sh (gw_t (tb5 (List.mem_of_getElem? (i := 202) rfl)) rfl) (gw_t (tb5 (List.mem_of_getElem? (i := 203) rfl)) rfl) (gw_t (tb1 (List.mem_of_getElem? (i := 0) rfl)) rfl) (gw_t (tb5 (List.mem_of_getElem? (i := 204) rfl)) rfl)) rfl rfl rfl ⟨by decide +kernel, by decide +kernel, by decide +kernel⟩ hR

abbrev rmL_drop : Room := { frames := 9, cells := 1, slots := 6, locals := 148 }
set_option maxHeartbeats 4000000 in
set_option maxRecDepth 100000 in
theorem wL_drop {l : Launch} {D : va_G} {Y : CYs} {E : Nat → Nat} {qo : Nat} {f f2 : Nat → Int64} {σ σ2 : Sta} {a1 : Int32} {k : Int32} (ht : l.stackTraces = false) {o : Int32 ⊕ String} (h : f_X8_drop a1 σ = some (o, σ2)) (ho : (∃ v : Int32, o = .inl v ∧ k = 0 ∧ f2 = vp_updL f 0 v.toInt64) ∨ (o = .inr eIOB ∧ k = 1 ∧ f = f2)) (sz : Nat) :
    Met l yL_drop (Cond.codeWith yL_drop cL_drop 4 (some .int) [(0, 9, 12, 24)] :: gW) rmL_drop (PcN (loA Y qo f :: wd Y E σ 0 LC) Y D sz [.ref (E 0), .int a1, .ref qo]) (QNi (loA Y qo f :: wd Y E σ 0 LC) (loA Y qo f2 :: wd Y E σ2 0 LC) Y D sz k) 1 6 (va_A (loA Y qo f :: wd Y E σ 0 LC) sz) := by
  refine Met_ofNH (Qc := fun sz => QNi (loA Y qo f :: wd Y E σ 0 LC) (loA Y qo f2 :: wd Y E σ2 0 LC) Y D sz k) (by decide) (Nat.le_of_ble_eq_true rfl) (fun p e s m args below meth c hC hb hml hr hlk hSW hP hD htab ls hl => ?_) sz
  have hx := hC.1
  have hA : ∀ q : Nat, s.heap.size ≤ q → va_A (loA Y qo f :: wd Y E σ 0 LC) s.heap.size q := fun q h => Or.inr h
  have hS : va_S (va_A (loA Y qo f :: wd Y E σ 0 LC) s.heap.size) s.heap s.heap [] := va_S.rf
  have hl : lv_has ls 4 [(0, .ref (E 0)), (1, .int a1), (2, .ref qo)] := hl
  refine lv_aload_n hx hb dL_drop_0 rfl (lv_at hl 2 rfl) ?_
  refine lv_iconst (v := 0) hx hb dL_drop_1 (by decide) ?_
  refine lv_aload_n hx hb dL_drop_2 rfl (lv_at hl 0 rfl) ?_
  refine lv_iload_n hx hb dL_drop_3 rfl (lv_at hl 1 rfl) ?_
  rcases ho with ⟨v, rfl, rfl, rfl⟩ | ⟨rfl, rfl, rfl⟩
  · refine n_VI (Rs := [loA Y qo f]) (As := [.int a1]) (rest := [.int 0, .ref qo]) hC hb hml hl.1 hSW hP hD hS hA (c_X8_drop ht h) (cw_L_83 hC rfl rfl ⟨(Nat.le_of_ble_eq_true rfl), (Nat.le_of_ble_eq_true rfl)⟩) lc_0 rfl rfl rfl (Nat.le_of_ble_eq_true rfl) dL_drop_4 ⟨(Nat.le_of_ble_eq_true rfl), (Nat.le_of_ble_eq_true rfl)⟩ (fun H locs hP hD hS => ?_)
    refine lv_i2l (v := v.toInt64) hx hb dL_drop_7 rfl ?_
    refine va_last hx hb hC.2.2.2.1 hP hD hS 0 1 rfl rfl vin0 dL_drop_8 (fun H locs hP hD hS => ?_)
    have hP : va_P D vwCl (loA Y qo (vp_updL f 0 v.toInt64) :: wd Y E σ2 0 LC) H := hP
    have hD : va_D (va_A (loA Y qo f :: wd Y E σ 0 LC) s.heap.size) (loA Y qo (vp_updL f 0 v.toInt64) :: wd Y E σ2 0 LC) := hD
    refine lv_goto (tgt := 15) hx hb dL_drop_9 (by decide) ?_
    refine lv_iconst (v := 0) hx hb dL_drop_15 (by decide) ?_
    refine W.widen (k := 1) (n := 6) (Nat.zero_le _) (Nat.zero_le _) ?_
    exact W.iret hx hb hr (fun t ht hW => ⟨⟨0, (), rfl, rfl, by rw [ht]; exact hP, va_K.moved hW.alike hC.2.2.2.1, hD⟩, hS.F ht⟩) hS.2.2 dL_drop_16 hlk
  · refine n_VX (Rs := [loA Y qo f]) (As := [.int a1]) (rest := [.int 0, .ref qo]) hC hb hml hl.1 hSW hP hD hS hA (c_X8_drop ht h) (cw_L_83 hC rfl rfl ⟨(Nat.le_of_ble_eq_true rfl), (Nat.le_of_ble_eq_true rfl)⟩) lc_0 rfl rfl rfl (Nat.le_of_ble_eq_true rfl) dL_drop_4 ⟨(Nat.le_of_ble_eq_true rfl), (Nat.le_of_ble_eq_true rfl)⟩ [] ({ startPc := 0, endPc := 9, handlerPc := 12, catchType := 24 }) [] htab (fun z hz => nomatch hz) (by decide) (by decide) (gw_t (tb4 (List.mem_of_getElem? (i := 188) rfl)) rfl) (by decide) rfl (fun q9 H locs hP hD hS => ?_)
    refine lv_astore_n (lv' := [(3, .ref q9), (0, .ref (E 0)), (1, .int a1), (2, .ref qo)]) hx hb dL_drop_12 rfl hl (by decide) rfl (fun ls hl => ?_)
    refine lv_iconst (v := 1) hx hb dL_drop_13 (by decide) ?_
    exact W.iret hx hb hr (fun t ht hW => ⟨⟨1, (), rfl, rfl, by rw [ht]; exact hP, va_K.moved hW.alike hC.2.2.2.1, hD⟩, hS.F ht⟩) hS.2.2 dL_drop_14 hlk
theorem csL_drop {R : Room} {p : Program} {s : State} {m : MethodId} {args : Array Value} {D : va_G} {Y : CYs} (hC : Ctx p s m args RL D Y) (hR : rmL_drop.frames + 1 ≤ R.frames ∧ 8 + (4 + 11) + rmL_drop.locals ≤ R.locals) : vx_CSW R s args RL 190 yL_drop cL_drop 4 (some .int) [(0, 9, 12, 24)] (Cond.codeWith yL_drop cL_drop 4 (some .int) [(0, 9, 12, 24)] :: gW) rmL_drop 1 6 3 :=
  vx_cwSW 3 hC.2.1 (gi_Sh (gw_t (tb5 (List.mem_of_getElem? (i := 210) rfl)) rfl) (gw_t (tb5 (List.mem_of_getElem? (i := 211) rfl)) rfl) (gw_t (tb1 (List.mem_of_getElem? (i := 0) rfl)) rfl) (gw_t (tb5 (List.mem_of_getElem? (i := 212) rfl)) rfl)) rfl rfl rfl ⟨by decide +kernel, by decide +kernel, by decide +kernel⟩ hR

abbrev rmL_reach : Room := { frames := 8, cells := 1, slots := 6, locals := 168 }
set_option maxHeartbeats 4000000 in
set_option maxRecDepth 100000 in
theorem wL_reach {l : Launch} {D : va_G} {Y : CYs} {E : Nat → Nat} {qo : Nat} {f f2 : Nat → Int64} {σ σ2 : Sta} {a1 : Int32} {a2 : Int32} {k : Int32} (ht : l.stackTraces = false) {o : Int32 ⊕ String} (h : f_X8_reach a1 a2 σ = some (o, σ2)) (ho : (∃ v : Int32, o = .inl v ∧ k = 0 ∧ f2 = vp_updL f 0 v.toInt64) ∨ (o = .inr eIAE ∧ k = 1 ∧ f = f2) ∨ (o = .inr eISE ∧ k = 2 ∧ f = f2)) (sz : Nat) :
    Met l yL_reach (Cond.codeWith yL_reach cL_reach 5 (some .int) [(0, 10, 13, 19), (0, 10, 17, 13)] :: gW) rmL_reach (PcN (loA Y qo f :: wd Y E σ 0 LC) Y D sz [.ref (E 0), .int a1, .int a2, .ref qo]) (QNi (loA Y qo f :: wd Y E σ 0 LC) (loA Y qo f2 :: wd Y E σ2 0 LC) Y D sz k) 1 6 (va_A (loA Y qo f :: wd Y E σ 0 LC) sz) := by
  refine Met_ofNH (Qc := fun sz => QNi (loA Y qo f :: wd Y E σ 0 LC) (loA Y qo f2 :: wd Y E σ2 0 LC) Y D sz k) (by decide) (Nat.le_of_ble_eq_true rfl) (fun p e s m args below meth c hC hb hml hr hlk hSW hP hD htab ls hl => ?_) sz
  have hx := hC.1
  have hA : ∀ q : Nat, s.heap.size ≤ q → va_A (loA Y qo f :: wd Y E σ 0 LC) s.heap.size q := fun q h => Or.inr h
  have hS : va_S (va_A (loA Y qo f :: wd Y E σ 0 LC) s.heap.size) s.heap s.heap [] := va_S.rf
  have hl : lv_has ls 5 [(0, .ref (E 0)), (1, .int a1), (2, .int a2), (3, .ref qo)] := hl
  refine lv_aload_n hx hb dL_reach_0 rfl (lv_at hl 3 rfl) ?_
  refine lv_iconst (v := 0) hx hb dL_reach_1 (by decide) ?_
  refine lv_aload_n hx hb dL_reach_2 rfl (lv_at hl 0 rfl) ?_
  refine lv_iload_n hx hb dL_reach_3 rfl (lv_at hl 1 rfl) ?_
  refine lv_iload_n hx hb dL_reach_4 rfl (lv_at hl 2 rfl) ?_
  rcases ho with ⟨v, rfl, rfl, rfl⟩ | ⟨rfl, rfl, rfl⟩ | ⟨rfl, rfl, rfl⟩
  · refine n_VI (Rs := [loA Y qo f]) (As := [.int a1, .int a2]) (rest := [.int 0, .ref qo]) hC hb hml hl.1 hSW hP hD hS hA (c_X8_reach ht h) (cw_L_86 hC rfl rfl ⟨(Nat.le_of_ble_eq_true rfl), (Nat.le_of_ble_eq_true rfl)⟩) lc_0 rfl rfl rfl (Nat.le_of_ble_eq_true rfl) dL_reach_5 ⟨(Nat.le_of_ble_eq_true rfl), (Nat.le_of_ble_eq_true rfl)⟩ (fun H locs hP hD hS => ?_)
    refine lv_i2l (v := v.toInt64) hx hb dL_reach_8 rfl ?_
    refine va_last hx hb hC.2.2.2.1 hP hD hS 0 1 rfl rfl vin0 dL_reach_9 (fun H locs hP hD hS => ?_)
    have hP : va_P D vwCl (loA Y qo (vp_updL f 0 v.toInt64) :: wd Y E σ2 0 LC) H := hP
    have hD : va_D (va_A (loA Y qo f :: wd Y E σ 0 LC) s.heap.size) (loA Y qo (vp_updL f 0 v.toInt64) :: wd Y E σ2 0 LC) := hD
    refine lv_goto (tgt := 21) hx hb dL_reach_10 (by decide) ?_
    refine lv_iconst (v := 0) hx hb dL_reach_21 (by decide) ?_
    refine W.widen (k := 1) (n := 6) (Nat.zero_le _) (Nat.zero_le _) ?_
    exact W.iret hx hb hr (fun t ht hW => ⟨⟨0, (), rfl, rfl, by rw [ht]; exact hP, va_K.moved hW.alike hC.2.2.2.1, hD⟩, hS.F ht⟩) hS.2.2 dL_reach_22 hlk
  · refine n_VX (Rs := [loA Y qo f]) (As := [.int a1, .int a2]) (rest := [.int 0, .ref qo]) hC hb hml hl.1 hSW hP hD hS hA (c_X8_reach ht h) (cw_L_86 hC rfl rfl ⟨(Nat.le_of_ble_eq_true rfl), (Nat.le_of_ble_eq_true rfl)⟩) lc_0 rfl rfl rfl (Nat.le_of_ble_eq_true rfl) dL_reach_5 ⟨(Nat.le_of_ble_eq_true rfl), (Nat.le_of_ble_eq_true rfl)⟩ [] ({ startPc := 0, endPc := 10, handlerPc := 13, catchType := 19 }) [{ startPc := 0, endPc := 10, handlerPc := 17, catchType := 13 }] htab (fun z hz => nomatch hz) (by decide) (by decide) (gw_t (tb4 (List.mem_of_getElem? (i := 160) rfl)) rfl) (by decide) rfl (fun q9 H locs hP hD hS => ?_)
    refine lv_astore (lv' := [(4, .ref q9), (0, .ref (E 0)), (1, .int a1), (2, .int a2), (3, .ref qo)]) hx hb dL_reach_13 hl (by decide) rfl (fun ls hl => ?_)
    refine lv_iconst (v := 1) hx hb dL_reach_15 (by decide) ?_
    exact W.iret hx hb hr (fun t ht hW => ⟨⟨1, (), rfl, rfl, by rw [ht]; exact hP, va_K.moved hW.alike hC.2.2.2.1, hD⟩, hS.F ht⟩) hS.2.2 dL_reach_16 hlk
  · refine n_VX (Rs := [loA Y qo f]) (As := [.int a1, .int a2]) (rest := [.int 0, .ref qo]) hC hb hml hl.1 hSW hP hD hS hA (c_X8_reach ht h) (cw_L_86 hC rfl rfl ⟨(Nat.le_of_ble_eq_true rfl), (Nat.le_of_ble_eq_true rfl)⟩) lc_0 rfl rfl rfl (Nat.le_of_ble_eq_true rfl) dL_reach_5 ⟨(Nat.le_of_ble_eq_true rfl), (Nat.le_of_ble_eq_true rfl)⟩ [{ startPc := 0, endPc := 10, handlerPc := 13, catchType := 19 }] ({ startPc := 0, endPc := 10, handlerPc := 17, catchType := 13 }) [] htab (fun z hz => by
      simp only [List.mem_cons, List.not_mem_nil, or_false] at hz
      rcases hz with rfl
      · exact ⟨by decide, eIAE, (gw_t (tb4 (List.mem_of_getElem? (i := 160) rfl)) rfl), by decide⟩) (by decide) (by decide) (gw_t (tb4 (List.mem_of_getElem? (i := 80) rfl)) rfl) (by decide) rfl (fun q9 H locs hP hD hS => ?_)
    refine lv_astore (lv' := [(4, .ref q9), (0, .ref (E 0)), (1, .int a1), (2, .int a2), (3, .ref qo)]) hx hb dL_reach_17 hl (by decide) rfl (fun ls hl => ?_)
    refine lv_iconst (v := 2) hx hb dL_reach_19 (by decide) ?_
    exact W.iret hx hb hr (fun t ht hW => ⟨⟨2, (), rfl, rfl, by rw [ht]; exact hP, va_K.moved hW.alike hC.2.2.2.1, hD⟩, hS.F ht⟩) hS.2.2 dL_reach_20 hlk
theorem csL_reach {R : Room} {p : Program} {s : State} {m : MethodId} {args : Array Value} {D : va_G} {Y : CYs} (hC : Ctx p s m args RL D Y) (hR : rmL_reach.frames + 1 ≤ R.frames ∧ 8 + (5 + 11) + rmL_reach.locals ≤ R.locals) : vx_CSW R s args RL 193 yL_reach cL_reach 5 (some .int) [(0, 10, 13, 19), (0, 10, 17, 13)] (Cond.codeWith yL_reach cL_reach 5 (some .int) [(0, 10, 13, 19), (0, 10, 17, 13)] :: gW) rmL_reach 1 6 4 :=
  vx_cwSW 4 hC.2.1 (gi_Sh (gw_t (tb5 (List.mem_of_getElem? (i := 217) rfl)) rfl) (gw_t (tb5 (List.mem_of_getElem? (i := 218) rfl)) rfl) (gw_t (tb1 (List.mem_of_getElem? (i := 0) rfl)) rfl) (gw_t (tb5 (List.mem_of_getElem? (i := 219) rfl)) rfl)) rfl rfl rfl ⟨by decide +kernel, by decide +kernel, by decide +kernel⟩ hR

abbrev rmL_play : Room := { frames := 9, cells := 1, slots := 6, locals := 146 }
set_option maxHeartbeats 4000000 in
set_option maxRecDepth 100000 in
theorem wL_play {l : Launch} {D : va_G} {Y : CYs} {E : Nat → Nat} {qo : Nat} {f f2 : Nat → Int64} {σ σ2 : Sta} {a1 : Int32} {k : Int32} (ht : l.stackTraces = false) {o : Int32 ⊕ String} (h : f_X8_play a1 σ = some (o, σ2)) (ho : (∃ v : Int32, o = .inl v ∧ k = 0 ∧ f2 = vp_updL f 0 v.toInt64) ∨ (o = .inr eIOB ∧ k = 1 ∧ f = f2)) (sz : Nat) :
    Met l yL_play (Cond.codeWith yL_play cL_play 4 (some .int) [(0, 9, 12, 24)] :: gW) rmL_play (PcN (loA Y qo f :: wd Y E σ 0 LC) Y D sz [.ref (E 0), .int a1, .ref qo]) (QNi (loA Y qo f :: wd Y E σ 0 LC) (loA Y qo f2 :: wd Y E σ2 0 LC) Y D sz k) 1 6 (va_A (loA Y qo f :: wd Y E σ 0 LC) sz) := by
  refine Met_ofNH (Qc := fun sz => QNi (loA Y qo f :: wd Y E σ 0 LC) (loA Y qo f2 :: wd Y E σ2 0 LC) Y D sz k) (by decide) (Nat.le_of_ble_eq_true rfl) (fun p e s m args below meth c hC hb hml hr hlk hSW hP hD htab ls hl => ?_) sz
  have hx := hC.1
  have hA : ∀ q : Nat, s.heap.size ≤ q → va_A (loA Y qo f :: wd Y E σ 0 LC) s.heap.size q := fun q h => Or.inr h
  have hS : va_S (va_A (loA Y qo f :: wd Y E σ 0 LC) s.heap.size) s.heap s.heap [] := va_S.rf
  have hl : lv_has ls 4 [(0, .ref (E 0)), (1, .int a1), (2, .ref qo)] := hl
  refine lv_aload_n hx hb dL_play_0 rfl (lv_at hl 2 rfl) ?_
  refine lv_iconst (v := 0) hx hb dL_play_1 (by decide) ?_
  refine lv_aload_n hx hb dL_play_2 rfl (lv_at hl 0 rfl) ?_
  refine lv_iload_n hx hb dL_play_3 rfl (lv_at hl 1 rfl) ?_
  rcases ho with ⟨v, rfl, rfl, rfl⟩ | ⟨rfl, rfl, rfl⟩
  · refine n_VI (Rs := [loA Y qo f]) (As := [.int a1]) (rest := [.int 0, .ref qo]) hC hb hml hl.1 hSW hP hD hS hA (c_X8_play ht h) (cw_L_90 hC rfl rfl ⟨(Nat.le_of_ble_eq_true rfl), (Nat.le_of_ble_eq_true rfl)⟩) lc_0 rfl rfl rfl (Nat.le_of_ble_eq_true rfl) dL_play_4 ⟨(Nat.le_of_ble_eq_true rfl), (Nat.le_of_ble_eq_true rfl)⟩ (fun H locs hP hD hS => ?_)
    refine lv_i2l (v := v.toInt64) hx hb dL_play_7 rfl ?_
    refine va_last hx hb hC.2.2.2.1 hP hD hS 0 1 rfl rfl vin0 dL_play_8 (fun H locs hP hD hS => ?_)
    have hP : va_P D vwCl (loA Y qo (vp_updL f 0 v.toInt64) :: wd Y E σ2 0 LC) H := hP
    have hD : va_D (va_A (loA Y qo f :: wd Y E σ 0 LC) s.heap.size) (loA Y qo (vp_updL f 0 v.toInt64) :: wd Y E σ2 0 LC) := hD
    refine lv_goto (tgt := 15) hx hb dL_play_9 (by decide) ?_
    refine lv_iconst (v := 0) hx hb dL_play_15 (by decide) ?_
    refine W.widen (k := 1) (n := 6) (Nat.zero_le _) (Nat.zero_le _) ?_
    exact W.iret hx hb hr (fun t ht hW => ⟨⟨0, (), rfl, rfl, by rw [ht]; exact hP, va_K.moved hW.alike hC.2.2.2.1, hD⟩, hS.F ht⟩) hS.2.2 dL_play_16 hlk
  · refine n_VX (Rs := [loA Y qo f]) (As := [.int a1]) (rest := [.int 0, .ref qo]) hC hb hml hl.1 hSW hP hD hS hA (c_X8_play ht h) (cw_L_90 hC rfl rfl ⟨(Nat.le_of_ble_eq_true rfl), (Nat.le_of_ble_eq_true rfl)⟩) lc_0 rfl rfl rfl (Nat.le_of_ble_eq_true rfl) dL_play_4 ⟨(Nat.le_of_ble_eq_true rfl), (Nat.le_of_ble_eq_true rfl)⟩ [] ({ startPc := 0, endPc := 9, handlerPc := 12, catchType := 24 }) [] htab (fun z hz => nomatch hz) (by decide) (by decide) (gw_t (tb4 (List.mem_of_getElem? (i := 188) rfl)) rfl) (by decide) rfl (fun q9 H locs hP hD hS => ?_)
    refine lv_astore_n (lv' := [(3, .ref q9), (0, .ref (E 0)), (1, .int a1), (2, .ref qo)]) hx hb dL_play_12 rfl hl (by decide) rfl (fun ls hl => ?_)
    refine lv_iconst (v := 1) hx hb dL_play_13 (by decide) ?_
    exact W.iret hx hb hr (fun t ht hW => ⟨⟨1, (), rfl, rfl, by rw [ht]; exact hP, va_K.moved hW.alike hC.2.2.2.1, hD⟩, hS.F ht⟩) hS.2.2 dL_play_14 hlk
theorem csL_play {R : Room} {p : Program} {s : State} {m : MethodId} {args : Array Value} {D : va_G} {Y : CYs} (hC : Ctx p s m args RL D Y) (hR : rmL_play.frames + 1 ≤ R.frames ∧ 8 + (4 + 11) + rmL_play.locals ≤ R.locals) : vx_CSW R s args RL 202 yL_play cL_play 4 (some .int) [(0, 9, 12, 24)] (Cond.codeWith yL_play cL_play 4 (some .int) [(0, 9, 12, 24)] :: gW) rmL_play 1 6 3 :=
  vx_cwSW 3 hC.2.1 (gi_Sh (gw_t (tb5 (List.mem_of_getElem? (i := 232) rfl)) rfl) (gw_t (tb5 (List.mem_of_getElem? (i := 233) rfl)) rfl) (gw_t (tb1 (List.mem_of_getElem? (i := 0) rfl)) rfl) (gw_t (tb5 (List.mem_of_getElem? (i := 234) rfl)) rfl)) rfl rfl rfl ⟨by decide +kernel, by decide +kernel, by decide +kernel⟩ hR

abbrev rmL_played : Room := { frames := 8, cells := 1, slots := 6, locals := 125 }
set_option maxHeartbeats 4000000 in
set_option maxRecDepth 100000 in
theorem wL_played {l : Launch} {D : va_G} {Y : CYs} {E : Nat → Nat} {qo : Nat} {f f2 : Nat → Int64} {σ σ2 : Sta} {a1 : Int32} {k : Int32} (ht : l.stackTraces = false) {o : Int64 ⊕ String} (h : f_X8_played a1 σ = some (o, σ2)) (ho : (∃ v : Int64, o = .inl v ∧ k = 0 ∧ f2 = vp_updL f 0 v) ∨ (o = .inr eIOB ∧ k = 1 ∧ f = f2)) (sz : Nat) :
    Met l yL_played (Cond.codeWith yL_played cL_played 4 (some .int) [(0, 8, 11, 24)] :: gW) rmL_played (PcN (loA Y qo f :: wd Y E σ 0 LC) Y D sz [.ref (E 0), .int a1, .ref qo]) (QNi (loA Y qo f :: wd Y E σ 0 LC) (loA Y qo f2 :: wd Y E σ2 0 LC) Y D sz k) 1 6 (va_A (loA Y qo f :: wd Y E σ 0 LC) sz) := by
  refine Met_ofNH (Qc := fun sz => QNi (loA Y qo f :: wd Y E σ 0 LC) (loA Y qo f2 :: wd Y E σ2 0 LC) Y D sz k) (by decide) (Nat.le_of_ble_eq_true rfl) (fun p e s m args below meth c hC hb hml hr hlk hSW hP hD htab ls hl => ?_) sz
  have hx := hC.1
  have hA : ∀ q : Nat, s.heap.size ≤ q → va_A (loA Y qo f :: wd Y E σ 0 LC) s.heap.size q := fun q h => Or.inr h
  have hS : va_S (va_A (loA Y qo f :: wd Y E σ 0 LC) s.heap.size) s.heap s.heap [] := va_S.rf
  have hl : lv_has ls 4 [(0, .ref (E 0)), (1, .int a1), (2, .ref qo)] := hl
  refine lv_aload_n hx hb dL_played_0 rfl (lv_at hl 2 rfl) ?_
  refine lv_iconst (v := 0) hx hb dL_played_1 (by decide) ?_
  refine lv_aload_n hx hb dL_played_2 rfl (lv_at hl 0 rfl) ?_
  refine lv_iload_n hx hb dL_played_3 rfl (lv_at hl 1 rfl) ?_
  rcases ho with ⟨v, rfl, rfl, rfl⟩ | ⟨rfl, rfl, rfl⟩
  · refine n_VL (Rs := [loA Y qo f]) (As := [.int a1]) (rest := [.int 0, .ref qo]) hC hb hml hl.1 hSW hP hD hS hA (c_X8_played ht h) (cw_L_93 hC rfl rfl ⟨(Nat.le_of_ble_eq_true rfl), (Nat.le_of_ble_eq_true rfl)⟩) lc_0 rfl rfl rfl (Nat.le_of_ble_eq_true rfl) dL_played_4 ⟨(Nat.le_of_ble_eq_true rfl), (Nat.le_of_ble_eq_true rfl)⟩ (fun H locs hP hD hS => ?_)
    refine va_last hx hb hC.2.2.2.1 hP hD hS 0 1 rfl rfl vin0 dL_played_7 (fun H locs hP hD hS => ?_)
    have hP : va_P D vwCl (loA Y qo (vp_updL f 0 v) :: wd Y E σ2 0 LC) H := hP
    have hD : va_D (va_A (loA Y qo f :: wd Y E σ 0 LC) s.heap.size) (loA Y qo (vp_updL f 0 v) :: wd Y E σ2 0 LC) := hD
    refine lv_goto (tgt := 14) hx hb dL_played_8 (by decide) ?_
    refine lv_iconst (v := 0) hx hb dL_played_14 (by decide) ?_
    refine W.widen (k := 1) (n := 6) (Nat.zero_le _) (Nat.zero_le _) ?_
    exact W.iret hx hb hr (fun t ht hW => ⟨⟨0, (), rfl, rfl, by rw [ht]; exact hP, va_K.moved hW.alike hC.2.2.2.1, hD⟩, hS.F ht⟩) hS.2.2 dL_played_15 hlk
  · refine n_VX (Rs := [loA Y qo f]) (As := [.int a1]) (rest := [.int 0, .ref qo]) hC hb hml hl.1 hSW hP hD hS hA (c_X8_played ht h) (cw_L_93 hC rfl rfl ⟨(Nat.le_of_ble_eq_true rfl), (Nat.le_of_ble_eq_true rfl)⟩) lc_0 rfl rfl rfl (Nat.le_of_ble_eq_true rfl) dL_played_4 ⟨(Nat.le_of_ble_eq_true rfl), (Nat.le_of_ble_eq_true rfl)⟩ [] ({ startPc := 0, endPc := 8, handlerPc := 11, catchType := 24 }) [] htab (fun z hz => nomatch hz) (by decide) (by decide) (gw_t (tb4 (List.mem_of_getElem? (i := 188) rfl)) rfl) (by decide) rfl (fun q9 H locs hP hD hS => ?_)
    refine lv_astore_n (lv' := [(3, .ref q9), (0, .ref (E 0)), (1, .int a1), (2, .ref qo)]) hx hb dL_played_11 rfl hl (by decide) rfl (fun ls hl => ?_)
    refine lv_iconst (v := 1) hx hb dL_played_12 (by decide) ?_
    exact W.iret hx hb hr (fun t ht hW => ⟨⟨1, (), rfl, rfl, by rw [ht]; exact hP, va_K.moved hW.alike hC.2.2.2.1, hD⟩, hS.F ht⟩) hS.2.2 dL_played_13 hlk
theorem csL_played {R : Room} {p : Program} {s : State} {m : MethodId} {args : Array Value} {D : va_G} {Y : CYs} (hC : Ctx p s m args RL D Y) (hR : rmL_played.frames + 1 ≤ R.frames ∧ 8 + (4 + 11) + rmL_played.locals ≤ R.locals) : vx_CSW R s args RL 205 yL_played cL_played 4 (some .int) [(0, 8, 11, 24)] (Cond.codeWith yL_played cL_played 4 (some .int) [(0, 8, 11, 24)] :: gW) rmL_played 1 6 3 :=
  vx_cwSW 3 hC.2.1 (gi_Sh (gw_t (tb6 (List.mem_of_getElem? (i := 20) rfl)) rfl) (gw_t (tb6 (List.mem_of_getElem? (i := 21) rfl)) rfl) (gw_t (tb1 (List.mem_of_getElem? (i := 0) rfl)) rfl) (gw_t (tb6 (List.mem_of_getElem? (i := 22) rfl)) rfl)) rfl rfl rfl ⟨by decide +kernel, by decide +kernel, by decide +kernel⟩ hR

abbrev rmL_average : Room := { frames := 9, cells := 1, slots := 6, locals := 151 }
set_option maxHeartbeats 4000000 in
set_option maxRecDepth 100000 in
theorem wL_average {l : Launch} {D : va_G} {Y : CYs} {E : Nat → Nat} {cD : ClassId} {qd : Nat} {f f2 : Nat → UInt64} {σ σ2 : Sta} {a1 : Int32} {a2 : Int32} {a3 : Int32} {k : Int32} (ht : l.stackTraces = false) {o : UInt64 ⊕ String} (h : f_X8_average a1 a2 a3 σ = some (o, σ2)) (ho : (∃ v : UInt64, o = .inl v ∧ k = 0 ∧ f2 = vf_upd f 0 v) ∨ (o = .inr eIOB ∧ k = 1 ∧ f = f2) ∨ (o = .inr eIAE ∧ k = 2 ∧ f = f2)) (sz : Nat) :
    Met l yL_average (Cond.codeWith yL_average cL_average 6 (some .int) [(0, 11, 14, 24), (0, 11, 18, 19)] :: gW) rmL_average (fun v U => PcN (ldA cD qd f :: wd Y E σ 0 LC) Y D sz [.ref (E 0), .int a1, .int a2, .int a3, .ref qd] v U ∧ va_K D vwCl (tysY Y ++ [(cD, .double)]) U) (QNi (ldA cD qd f :: wd Y E σ 0 LC) (ldA cD qd f2 :: wd Y E σ2 0 LC) Y D sz k) 1 6 (va_A (ldA cD qd f :: wd Y E σ 0 LC) sz) := by
  refine Met_ofNHd (Qc := fun sz => QNi (ldA cD qd f :: wd Y E σ 0 LC) (ldA cD qd f2 :: wd Y E σ2 0 LC) Y D sz k) (by decide) (Nat.le_of_ble_eq_true rfl) (fun p e s m args below meth c hC hb hml hr hlk hSW hP hD hKD htab ls hl => ?_) sz
  have hx := hC.1
  have hA : ∀ q : Nat, s.heap.size ≤ q → va_A (ldA cD qd f :: wd Y E σ 0 LC) s.heap.size q := fun q h => Or.inr h
  have hS : va_S (va_A (ldA cD qd f :: wd Y E σ 0 LC) s.heap.size) s.heap s.heap [] := va_S.rf
  have hl : lv_has ls 6 [(0, .ref (E 0)), (1, .int a1), (2, .int a2), (3, .int a3), (4, .ref qd)] := hl
  refine lv_aload hx hb dL_average_0 (lv_at hl 4 rfl) ?_
  refine lv_iconst (v := 0) hx hb dL_average_2 (by decide) ?_
  refine lv_aload_n hx hb dL_average_3 rfl (lv_at hl 0 rfl) ?_
  refine lv_iload_n hx hb dL_average_4 rfl (lv_at hl 1 rfl) ?_
  refine lv_iload_n hx hb dL_average_5 rfl (lv_at hl 2 rfl) ?_
  refine lv_iload_n hx hb dL_average_6 rfl (lv_at hl 3 rfl) ?_
  rcases ho with ⟨v, rfl, rfl, rfl⟩ | ⟨rfl, rfl, rfl⟩ | ⟨rfl, rfl, rfl⟩
  · refine n_VD (Rs := [ldA cD qd f]) (As := [.int a1, .int a2, .int a3]) (rest := [.int 0, .ref qd]) hC hb hml hl.1 hSW hP hD hS hA (c_X8_average ht h) (cw_L_97 hC rfl rfl ⟨(Nat.le_of_ble_eq_true rfl), (Nat.le_of_ble_eq_true rfl)⟩) lc_0 rfl rfl rfl (Nat.le_of_ble_eq_true rfl) dL_average_7 ⟨(Nat.le_of_ble_eq_true rfl), (Nat.le_of_ble_eq_true rfl)⟩ (fun H locs hP hD hS => ?_)
    refine va_dast hx hb hKD hP hD hS 0 4 rfl rfl vin0 dL_average_10 (fun H locs hP hD hS => ?_)
    have hP : va_P D vwCl (ldA cD qd (vf_upd f 0 v) :: wd Y E σ2 0 LC) H := hP
    have hD : va_D (va_A (ldA cD qd f :: wd Y E σ 0 LC) s.heap.size) (ldA cD qd (vf_upd f 0 v) :: wd Y E σ2 0 LC) := hD
    refine lv_goto (tgt := 22) hx hb dL_average_11 (by decide) ?_
    refine lv_iconst (v := 0) hx hb dL_average_22 (by decide) ?_
    refine W.widen (k := 1) (n := 6) (Nat.zero_le _) (Nat.zero_le _) ?_
    exact W.iret hx hb hr (fun t ht hW => ⟨⟨0, (), rfl, rfl, by rw [ht]; exact hP, va_K.moved hW.alike hC.2.2.2.1, hD⟩, hS.F ht⟩) hS.2.2 dL_average_23 hlk
  · refine n_VX (Rs := [ldA cD qd f]) (As := [.int a1, .int a2, .int a3]) (rest := [.int 0, .ref qd]) hC hb hml hl.1 hSW hP hD hS hA (c_X8_average ht h) (cw_L_97 hC rfl rfl ⟨(Nat.le_of_ble_eq_true rfl), (Nat.le_of_ble_eq_true rfl)⟩) lc_0 rfl rfl rfl (Nat.le_of_ble_eq_true rfl) dL_average_7 ⟨(Nat.le_of_ble_eq_true rfl), (Nat.le_of_ble_eq_true rfl)⟩ [] ({ startPc := 0, endPc := 11, handlerPc := 14, catchType := 24 }) [{ startPc := 0, endPc := 11, handlerPc := 18, catchType := 19 }] htab (fun z hz => nomatch hz) (by decide) (by decide) (gw_t (tb4 (List.mem_of_getElem? (i := 188) rfl)) rfl) (by decide) rfl (fun q9 H locs hP hD hS => ?_)
    refine lv_astore (lv' := [(5, .ref q9), (0, .ref (E 0)), (1, .int a1), (2, .int a2), (3, .int a3), (4, .ref qd)]) hx hb dL_average_14 hl (by decide) rfl (fun ls hl => ?_)
    refine lv_iconst (v := 1) hx hb dL_average_16 (by decide) ?_
    exact W.iret hx hb hr (fun t ht hW => ⟨⟨1, (), rfl, rfl, by rw [ht]; exact hP, va_K.moved hW.alike hC.2.2.2.1, hD⟩, hS.F ht⟩) hS.2.2 dL_average_17 hlk
  · refine n_VX (Rs := [ldA cD qd f]) (As := [.int a1, .int a2, .int a3]) (rest := [.int 0, .ref qd]) hC hb hml hl.1 hSW hP hD hS hA (c_X8_average ht h) (cw_L_97 hC rfl rfl ⟨(Nat.le_of_ble_eq_true rfl), (Nat.le_of_ble_eq_true rfl)⟩) lc_0 rfl rfl rfl (Nat.le_of_ble_eq_true rfl) dL_average_7 ⟨(Nat.le_of_ble_eq_true rfl), (Nat.le_of_ble_eq_true rfl)⟩ [{ startPc := 0, endPc := 11, handlerPc := 14, catchType := 24 }] ({ startPc := 0, endPc := 11, handlerPc := 18, catchType := 19 }) [] htab (fun z hz => by
      simp only [List.mem_cons, List.not_mem_nil, or_false] at hz
      rcases hz with rfl
      · exact ⟨by decide, eIOB, (gw_t (tb4 (List.mem_of_getElem? (i := 188) rfl)) rfl), by decide⟩) (by decide) (by decide) (gw_t (tb4 (List.mem_of_getElem? (i := 160) rfl)) rfl) (by decide) rfl (fun q9 H locs hP hD hS => ?_)
    refine lv_astore (lv' := [(5, .ref q9), (0, .ref (E 0)), (1, .int a1), (2, .int a2), (3, .int a3), (4, .ref qd)]) hx hb dL_average_18 hl (by decide) rfl (fun ls hl => ?_)
    refine lv_iconst (v := 2) hx hb dL_average_20 (by decide) ?_
    exact W.iret hx hb hr (fun t ht hW => ⟨⟨2, (), rfl, rfl, by rw [ht]; exact hP, va_K.moved hW.alike hC.2.2.2.1, hD⟩, hS.F ht⟩) hS.2.2 dL_average_21 hlk
theorem csL_average {R : Room} {p : Program} {s : State} {m : MethodId} {args : Array Value} {D : va_G} {Y : CYs} (hC : Ctx p s m args RL D Y) (hR : rmL_average.frames + 1 ≤ R.frames ∧ 8 + (6 + 11) + rmL_average.locals ≤ R.locals) : vx_CSW R s args RL 208 yL_average cL_average 6 (some .int) [(0, 11, 14, 24), (0, 11, 18, 19)] (Cond.codeWith yL_average cL_average 6 (some .int) [(0, 11, 14, 24), (0, 11, 18, 19)] :: gW) rmL_average 1 6 5 :=
  vx_cwSW 5 hC.2.1 (gi_Sh (gw_t (tb6 (List.mem_of_getElem? (i := 27) rfl)) rfl) (gw_t (tb6 (List.mem_of_getElem? (i := 28) rfl)) rfl) (gw_t (tb1 (List.mem_of_getElem? (i := 0) rfl)) rfl) (gw_t (tb6 (List.mem_of_getElem? (i := 29) rfl)) rfl)) rfl rfl rfl ⟨by decide +kernel, by decide +kernel, by decide +kernel⟩ hR
